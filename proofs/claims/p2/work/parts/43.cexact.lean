theorem bz_ix {t ct k F dl : Nat} (ht : t < F) (hk : k < ct) (h : F * ct ≤ dl) : t * ct + k < dl := by
  have h1 : (t + 1) * ct ≤ F * ct := Nat.mul_le_mul_right ct ht
  rw [Nat.add_mul, Nat.one_mul] at h1
  omega

def f0_has (t : Nat) (k : Nat) : Bool := (if ((t / 2 ^ k) % 2) = 1 then true else false)
set_option maxRecDepth 100000 in
set_option maxHeartbeats 4000000 in
theorem kX0_has (l : Launch) (D : va_G) (xo : Nat) (nt : Nat) (es : Nat) (ro : Nat) (ad : Nat → Nat) (cI : ClassId) (cJ : ClassId) (cZ : ClassId) (ln : Int32) (fz : Nat) (sx : Bool) (mo : Int32) (sn : Nat) (bw : Int32) (tkv : Nat → Int64) (opv : Nat → Int64) (shv : Nat → Int64) (ldv : Nat → Int32) (wyv : Nat → Int64) (bdv : Nat → Bool) (ct : Nat) (dA : Nat) (sta : Nat) (stc : Int64) (fev : Nat → Nat) (dl : Nat) (dnv : Nat → Int64) (rov : Nat → Nat) (t : Nat) (k : Nat) (ht : t < 2048) (hk : k < 32) : gz_M l yX0_has cX0_has 2 (some .boolean) ({ frames := 0, cells := 0, slots := 0, locals := 0 } : Room) D [(cI, .int), (cJ, .long), (cZ, .boolean)] [.int (nI t), .int (nI k)] (wC xo nt es ro ad cI cJ cZ ln fz sx mo sn bw tkv opv shv ldv wyv bdv ct dA dA sta stc fev dl dnv rov) (some (.int (bI (f0_has t k)))) (wC xo nt es ro ad cI cJ cZ ln fz sx mo sn bw tkv opv shv ldv wyv bdv ct dA dA sta stc fev dl dnv rov) 0 0 := by
  refine gz_met l (by decide) (Nat.le_of_ble_eq_true rfl) [(0, .int (nI t)), (1, .int (nI k))] rfl ?_
  intro sz p e s m args below meth c C hr hk hnm
  have C : gz_C p s m args c cX0_has 2 RX0 D [(cI, .int), (cJ, .long), (cZ, .boolean)] (va_A (wC xo nt es ro ad cI cJ cZ ln fz sx mo sn bw tkv opv shv ldv wyv bdv ct dA dA sta stc fev dl dnv rov) sz) := C
  refine gz_iload_n C 0 dX0_has_0 rfl ?_
  refine gz_iload_n C 1 dX0_has_1 rfl ?_
  refine gz_ishr (v := nI (t / 2 ^ k)) C dX0_has_2 (bz_shr (by omega) (by omega)) ?_
  refine gz_iconst (v := nI 1) C dX0_has_3 (by decide) ?_
  refine gz_iand (v := nI ((t / 2 ^ k) % 2)) C dX0_has_4 (bz_and1 _ (Nat.lt_of_le_of_lt (Nat.div_le_self _ _) (by omega))) ?_
  refine gz_iconst (v := nI 1) C dX0_has_5 (by decide) ?_
  refine gz_J (ws2 := (wC xo nt es ro ad cI cJ cZ ln fz sx mo sn bw tkv opv shv ldv wyv bdv ct dA dA sta stc fev dl dnv rov)) (lv2 := [(0, .int (nI t)), (1, .int (nI k))]) (st2 := [.int (nI ((if ((t / 2 ^ k) % 2) = 1 then 1 else 0)))]) (pc2 := 14) ?_ (fun J_1 => ?_)
  rotate_left
  · refine gz_ncmp_ne C 13 (by omega) (by omega) dX0_has_6 (by decide) (fun h_1 => ?_) (fun h_1 => ?_)
    · have g_1 : ¬ (((t / 2 ^ k) % 2) = 1) := h_1
      refine gz_iconst (v := nI 0) C dX0_has_13 (by decide) ?_
      simp only [if_neg g_1] at J_1 ⊢
      exact gz_lv [0, 1] rfl J_1
    · skip
      refine gz_iconst (v := nI 1) C dX0_has_9 (by decide) ?_
      refine gz_goto C 14 dX0_has_10 (by decide) ?_
      simp only [if_pos h_1] at J_1 ⊢
      exact gz_lv [0, 1] rfl J_1
  refine gz_sw (v := .int (nI ((if ((t / 2 ^ k) % 2) = 1 then 1 else 0)))) (w := .int (bI ((if ((t / 2 ^ k) % 2) = 1 then true else false)))) (by rw [show nI ((if ((t / 2 ^ k) % 2) = 1 then 1 else 0)) = bI ((if ((t / 2 ^ k) % 2) = 1 then true else false)) from (by first | rfl | decide | ((repeat' split) <;> rfl))]) ?_
  exact gz_zret C hr hk (bI_nar _) (by first | rfl | (simp only [f0_has]) | (simp only [f0_has]; rfl)) rfl (Nat.le_refl _) (Nat.le_refl _) dX0_has_14

def f0_followFrozen_lp (tkv : Nat → Int64) (opv : Nat → Int64) (shv : Nat → Int64) (wyv : Nat → Int64) (bdv : Nat → Bool) (rov : Nat → Nat) : Nat → Nat → Nat → Int64 → Nat × Nat × Int64
  | 0, k, sta, stc => (k, sta, stc)
  | n + 1, k, sta, stc => f0_followFrozen_lp tkv opv shv wyv bdv rov n (k + 1) (rov k) (f1_goodLeg tkv opv shv wyv bdv sta stc (rov k))
set_option maxRecDepth 100000 in
set_option maxHeartbeats 4000000 in
theorem lX0_followFrozen_lp {p : Program} {l : Launch} {e : Env} {R : Room} {s : State} {m : MethodId} {args : Array Value} {below : List Frame} {meth : Method} {c : Code} {cells slots : Nat} {Q : State → Prop} {A : Nat → Prop} {D : va_G} (xo : Nat) (nt : Nat) (es : Nat) (ro : Nat) (ad : Nat → Nat) (cI : ClassId) (cJ : ClassId) (cZ : ClassId) (ln : Int32) (fz : Nat) (sx : Bool) (mo : Int32) (sn : Nat) (bw : Int32) (tkv : Nat → Int64) (opv : Nat → Int64) (shv : Nat → Int64) (ldv : Nat → Int32) (wyv : Nat → Int64) (bdv : Nat → Bool) (ct : Nat) (dA : Nat) (fev : Nat → Nat) (dl : Nat) (dnv : Nat → Int64) (rov : Nat → Nat) (z : Nat) (hz : z ≤ 20) (hro : ∀ k, k < z → rov k ≤ 20) (hR : 3 ≤ R.frames ∧ 73 ≤ R.locals) (hce : cells ≤ R.cells ∧ slots ≤ R.slots) (C : gz_C p s m args c cX0_followFrozen 5 RX0 D [(cI, .int), (cJ, .long), (cZ, .boolean)] A) : ∀ (n : Nat) (k : Nat) (sta : Nat) (stc : Int64), (k + n = z) → (sta ≤ 20) → ((((f0_followFrozen_lp tkv opv shv wyv bdv rov n k sta stc).1) + 0 = z) → (((f0_followFrozen_lp tkv opv shv wyv bdv rov n k sta stc).2.1) ≤ 20) → GZ p l e R s m args below meth c 5 D A cells slots Q (wC xo nt es ro ad cI cJ cZ ln fz sx mo sn bw tkv opv shv ldv wyv bdv ct dA dA ((f0_followFrozen_lp tkv opv shv wyv bdv rov n k sta stc).2.1) ((f0_followFrozen_lp tkv opv shv wyv bdv rov n k sta stc).2.2) fev dl dnv rov) [(0, .ref es), (1, .ref nt), (2, .ref ro), (3, .int (nI z)), (4, .int (nI ((f0_followFrozen_lp tkv opv shv wyv bdv rov n k sta stc).1)))] [] 53) → GZ p l e R s m args below meth c 5 D A cells slots Q (wC xo nt es ro ad cI cJ cZ ln fz sx mo sn bw tkv opv shv ldv wyv bdv ct dA dA sta stc fev dl dnv rov) [(0, .ref es), (1, .ref nt), (2, .ref ro), (3, .int (nI z)), (4, .int (nI k))] [] 13 := by
  intro n
  induction n with
  | zero =>
    intro k sta stc hme hst hx
    refine gz_iload C 4 dX0_followFrozen_13 rfl ?_
    refine gz_iload_n C 3 dX0_followFrozen_15 rfl ?_
    refine gz_ncmp_ge C 53 (by omega) (by omega) dX0_followFrozen_16 (by decide) (fun h_1 => ?_) (fun h_1 => ?_)
    · skip
      exact gz_lv [0, 1, 2, 3, 4] rfl (hx hme hst)
    · have g_1 : ¬ (z ≤ k) := (Nat.not_le.mpr h_1)
      exfalso; omega
  | succ n ih =>
    intro k sta stc hme hst hx
    refine gz_iload C 4 dX0_followFrozen_13 rfl ?_
    refine gz_iload_n C 3 dX0_followFrozen_15 rfl ?_
    refine gz_ncmp_ge C 53 (by omega) (by omega) dX0_followFrozen_16 (by decide) (fun h_1 => ?_) (fun h_1 => ?_)
    · skip
      exfalso; omega
    · have g_1 : ¬ (z ≤ k) := (Nat.not_le.mpr h_1)
      have hq := hro k (by omega)
      refine gz_aload_n C 0 dX0_followFrozen_19 rfl ?_
      refine gz_aload_n C 1 dX0_followFrozen_20 rfl ?_
      refine gz_aload_n C 0 dX0_followFrozen_21 rfl ?_
      refine gz_get (ci := 1) C iwX0 8 rfl rfl 3 (by decide) wk_66 rfl rfl dX0_followFrozen_22 ?_
      refine gz_aload_n C 0 dX0_followFrozen_25 rfl ?_
      refine gz_get (ci := 1) C iwX0 8 rfl rfl 4 (by decide) wk_67 rfl rfl dX0_followFrozen_26 ?_
      refine gz_aload_n C 2 dX0_followFrozen_29 rfl ?_
      refine gz_iload C 4 dX0_followFrozen_30 rfl ?_
      refine gz_iald C 11 0 rfl rfl (by omega) (by decide) dX0_followFrozen_32 ?_
      refine gz_callV (wr := []) (n := 3) (ws2 := (wC xo nt es ro ad cI cJ cZ ln fz sx mo sn bw tkv opv shv ldv wyv bdv ct dA dA sta stc fev dl dnv rov)) (st2 := [.long (f1_goodLeg tkv opv shv wyv bdv sta stc (rov k)), .ref es]) (cells2 := cells) (slots2 := slots) (ci := 2) C (kX1_goodLeg l D xo nt es ro ad cI cJ cZ ln fz sx mo sn bw tkv opv shv ldv wyv bdv ct dA sta stc fev dl dnv rov sta stc (rov k) (by first | assumption | omega) (by first | assumption | omega)) (WB_V wk_164 wk_165 wk_166 wk_2 wk_167) (by decide +kernel) ⟨⟨rfl, rfl⟩, Nat.le_trans (by decide) hR.1, Nat.le_trans (by decide) hR.2⟩ [0, 1, 2, 3, 4, 5, 6, 7, 8, 9, 10, 11] [] [0, 1, 2] rfl rfl rfl (by decide) rfl 1 rfl rfl rfl rfl (Nat.le_of_ble_eq_true rfl) dX0_followFrozen_33 hce rfl rfl rfl ?_
      refine gz_put (ci := 1) (ws2 := (wC xo nt es ro ad cI cJ cZ ln fz sx mo sn bw tkv opv shv ldv wyv bdv ct dA dA sta (f1_goodLeg tkv opv shv wyv bdv sta stc (rov k)) fev dl dnv rov)) C iwX0 8 rfl rfl 4 (by decide) wk_67 rfl tyX0 tyX0_ok nmX0 rfl rfl rfl rfl (Nat.le_of_ble_eq_true rfl) rfl dX0_followFrozen_36 ?_
      refine gz_aload_n C 0 dX0_followFrozen_39 rfl ?_
      refine gz_aload_n C 2 dX0_followFrozen_40 rfl ?_
      refine gz_iload C 4 dX0_followFrozen_41 rfl ?_
      refine gz_iald C 11 0 rfl rfl (by omega) (by decide) dX0_followFrozen_43 ?_
      refine gz_put (ci := 1) (ws2 := (wC xo nt es ro ad cI cJ cZ ln fz sx mo sn bw tkv opv shv ldv wyv bdv ct dA dA (rov k) (f1_goodLeg tkv opv shv wyv bdv sta stc (rov k)) fev dl dnv rov)) C iwX0 8 rfl rfl 3 (by decide) wk_66 rfl tyX0 tyX0_ok nmX0 rfl rfl rfl rfl (Nat.le_of_ble_eq_true rfl) rfl dX0_followFrozen_44 ?_
      refine gz_iinc (v := nI (k + 1)) (lv2 := [(4, .int (nI (k + 1))), (0, .ref es), (1, .ref nt), (2, .ref ro), (3, .int (nI z))]) (k := 4) C dX0_followFrozen_47 rfl (nI_add _ 1) (by decide) rfl ?_
      refine gz_goto C 13 dX0_followFrozen_50 (by decide) ?_
      refine gz_lv [1, 2, 3, 4, 0] rfl ?_
      simp only [f0_followFrozen_lp, if_neg g_1] at hx
      exact ih (k + 1) (rov k) (f1_goodLeg tkv opv shv wyv bdv sta stc (rov k)) (by omega) (by omega) hx

def f0_followFrozen_sta (tkv : Nat → Int64) (opv : Nat → Int64) (shv : Nat → Int64) (wyv : Nat → Int64) (bdv : Nat → Bool) (rov : Nat → Nat) (z : Nat) : Nat := (f0_followFrozen_lp tkv opv shv wyv bdv rov z 0 0 0).2.1
def f0_followFrozen_stc (tkv : Nat → Int64) (opv : Nat → Int64) (shv : Nat → Int64) (wyv : Nat → Int64) (bdv : Nat → Bool) (rov : Nat → Nat) (z : Nat) : Int64 := (f0_followFrozen_lp tkv opv shv wyv bdv rov z 0 0 0).2.2
set_option maxRecDepth 100000 in
set_option maxHeartbeats 4000000 in
theorem kX0_followFrozen (l : Launch) (D : va_G) (xo : Nat) (nt : Nat) (es : Nat) (ro : Nat) (ad : Nat → Nat) (cI : ClassId) (cJ : ClassId) (cZ : ClassId) (ln : Int32) (fz : Nat) (sx : Bool) (mo : Int32) (sn : Nat) (bw : Int32) (tkv : Nat → Int64) (opv : Nat → Int64) (shv : Nat → Int64) (ldv : Nat → Int32) (wyv : Nat → Int64) (bdv : Nat → Bool) (ct : Nat) (dA : Nat) (sta : Nat) (stc : Int64) (fev : Nat → Nat) (dl : Nat) (dnv : Nat → Int64) (rov : Nat → Nat) (z : Nat) (hz : z ≤ 20) (hro : ∀ k, k < z → rov k ≤ 20) : gz_M l yX0_followFrozen cX0_followFrozen 5 none ({ frames := 3, cells := 0, slots := 0, locals := 73 } : Room) D [(cI, .int), (cJ, .long), (cZ, .boolean)] [.ref es, .ref nt, .ref ro, .int (nI z)] (wC xo nt es ro ad cI cJ cZ ln fz sx mo sn bw tkv opv shv ldv wyv bdv ct dA dA sta stc fev dl dnv rov) (none) (wC xo nt es ro ad cI cJ cZ ln fz sx mo sn bw tkv opv shv ldv wyv bdv ct dA dA (f0_followFrozen_sta tkv opv shv wyv bdv rov z) (f0_followFrozen_stc tkv opv shv wyv bdv rov z) fev dl dnv rov) 0 0 := by
  refine gz_met l (by decide) (Nat.le_of_ble_eq_true rfl) [(0, .ref es), (1, .ref nt), (2, .ref ro), (3, .int (nI z))] rfl ?_
  intro sz p e s m args below meth c C hr hk hnm
  have C : gz_C p s m args c cX0_followFrozen 5 RX0 D [(cI, .int), (cJ, .long), (cZ, .boolean)] (va_A (wC xo nt es ro ad cI cJ cZ ln fz sx mo sn bw tkv opv shv ldv wyv bdv ct dA dA sta stc fev dl dnv rov) sz) := C
  refine gz_aload_n C 0 dX0_followFrozen_0 rfl ?_
  refine gz_iconst (v := nI 0) C dX0_followFrozen_1 (by decide) ?_
  refine gz_put (ci := 1) (ws2 := (wC xo nt es ro ad cI cJ cZ ln fz sx mo sn bw tkv opv shv ldv wyv bdv ct dA dA 0 stc fev dl dnv rov)) C iwX0 8 rfl rfl 3 (by decide) wk_66 rfl tyX0 tyX0_ok nmX0 rfl rfl rfl rfl (Nat.le_of_ble_eq_true rfl) rfl dX0_followFrozen_2 ?_
  refine gz_aload_n C 0 dX0_followFrozen_5 rfl ?_
  refine gz_lconst (v := 0) C dX0_followFrozen_6 (by decide) ?_
  refine gz_put (ci := 1) (ws2 := (wC xo nt es ro ad cI cJ cZ ln fz sx mo sn bw tkv opv shv ldv wyv bdv ct dA dA 0 0 fev dl dnv rov)) C iwX0 8 rfl rfl 4 (by decide) wk_67 rfl tyX0 tyX0_ok nmX0 rfl rfl rfl rfl (Nat.le_of_ble_eq_true rfl) rfl dX0_followFrozen_7 ?_
  refine gz_iconst (v := nI 0) C dX0_followFrozen_10 (by decide) ?_
  refine gz_istore (lv2 := [(4, .int (nI 0)), (0, .ref es), (1, .ref nt), (2, .ref ro), (3, .int (nI z))]) C dX0_followFrozen_11 (by decide) rfl ?_
  refine gz_lv (lv2 := [(0, .ref es), (1, .ref nt), (2, .ref ro), (3, .int (nI z)), (4, .int (nI 0))]) [1, 2, 3, 4, 0] rfl ?_
  refine lX0_followFrozen_lp xo nt es ro ad cI cJ cZ ln fz sx mo sn bw tkv opv shv ldv wyv bdv ct dA fev dl dnv rov z (by first | assumption | omega) (by first | assumption | omega) ⟨Nat.le_of_ble_eq_true rfl, Nat.le_of_ble_eq_true rfl⟩ ⟨Nat.zero_le _, Nat.zero_le _⟩ C z 0 0 0 (by omega) (by first | assumption | omega) ?_
  intro zme_lp zhst_lp
  exact gz_vret C hr hk (by first | rfl | (simp only [f0_followFrozen_sta, f0_followFrozen_stc]) | (simp only [f0_followFrozen_sta, f0_followFrozen_stc]; rfl)) (by first | rfl | (simp only [f0_followFrozen_sta, f0_followFrozen_stc]) | (simp only [f0_followFrozen_sta, f0_followFrozen_stc]; rfl)) (Nat.le_refl _) (Nat.le_refl _) dX0_followFrozen_53

def f0_collectFree_lp (rov : Nat → Nat) (z : Nat) : Nat → Nat → Nat → (Nat → Nat) → Nat × Nat × (Nat → Nat)
  | 0, k, ct, fev => (k, ct, fev)
  | n + 1, k, ct, fev => if 11 ≤ ct then (k, ct, fev) else f0_collectFree_lp rov z n (k + 1) ((if (f1_holds rov z k) = true then ct else ct + 1)) ((if (f1_holds rov z k) = true then fev else va_up fev ct k))
set_option maxRecDepth 100000 in
set_option maxHeartbeats 4000000 in
theorem lX0_collectFree_lp {p : Program} {l : Launch} {e : Env} {R : Room} {s : State} {m : MethodId} {args : Array Value} {below : List Frame} {meth : Method} {c : Code} {cells slots : Nat} {Q : State → Prop} {A : Nat → Prop} {D : va_G} (xo : Nat) (nt : Nat) (es : Nat) (ro : Nat) (ad : Nat → Nat) (cI : ClassId) (cJ : ClassId) (cZ : ClassId) (ln : Int32) (fz : Nat) (sx : Bool) (mo : Int32) (sn : Nat) (bw : Int32) (tkv : Nat → Int64) (opv : Nat → Int64) (shv : Nat → Int64) (ldv : Nat → Int32) (wyv : Nat → Int64) (bdv : Nat → Bool) (dA : Nat) (sta : Nat) (stc : Int64) (dl : Nat) (dnv : Nat → Int64) (rov : Nat → Nat) (z : Nat) (hsn : sn ≤ 20) (hz : z ≤ 20) (hro : ∀ k, k < z → rov k ≤ 20) (hR : 1 ≤ R.frames ∧ 23 ≤ R.locals) (hce : cells ≤ R.cells ∧ slots ≤ R.slots) (C : gz_C p s m args c cX0_collectFree 5 RX0 D [(cI, .int), (cJ, .long), (cZ, .boolean)] A) : ∀ (n : Nat) (k : Nat) (ct : Nat) (fev : Nat → Nat), (k + n = sn + 1) → (ct ≤ 11) → ((((f0_collectFree_lp rov z n k ct fev).2.1) ≤ 11) → GZ p l e R s m args below meth c 5 D A cells slots Q (wC xo nt es ro ad cI cJ cZ ln fz sx mo sn bw tkv opv shv ldv wyv bdv ((f0_collectFree_lp rov z n k ct fev).2.1) dA dA sta stc ((f0_collectFree_lp rov z n k ct fev).2.2) dl dnv rov) [(0, .ref es), (1, .ref nt), (2, .ref ro), (3, .int (nI z)), (4, .int (nI ((f0_collectFree_lp rov z n k ct fev).1)))] [] 63) → GZ p l e R s m args below meth c 5 D A cells slots Q (wC xo nt es ro ad cI cJ cZ ln fz sx mo sn bw tkv opv shv ldv wyv bdv ct dA dA sta stc fev dl dnv rov) [(0, .ref es), (1, .ref nt), (2, .ref ro), (3, .int (nI z)), (4, .int (nI k))] [] 8 := by
  intro n
  induction n with
  | zero =>
    intro k ct fev hme hct hx
    refine gz_iload C 4 dX0_collectFree_8 rfl ?_
    refine gz_aload_n C 1 dX0_collectFree_10 rfl ?_
    refine gz_getN (ci := 2) C iwX1 1 rfl rfl 0 (by decide) (nw_0 C.2.2.2.2.2.2.2) rfl rfl dX0_collectFree_11 ?_
    refine gz_ncmp_gt C 63 (by omega) (by omega) dX0_collectFree_14 (by decide) (fun h_1 => ?_) (fun h_1 => ?_)
    · skip
      exact gz_lv [0, 1, 2, 3, 4] rfl (hx hct)
    · have g_1 : ¬ (sn < k) := (Nat.not_lt.mpr h_1)
      exfalso; omega
  | succ n ih =>
    intro k ct fev hme hct hx
    refine gz_iload C 4 dX0_collectFree_8 rfl ?_
    refine gz_aload_n C 1 dX0_collectFree_10 rfl ?_
    refine gz_getN (ci := 2) C iwX1 1 rfl rfl 0 (by decide) (nw_0 C.2.2.2.2.2.2.2) rfl rfl dX0_collectFree_11 ?_
    refine gz_ncmp_gt C 63 (by omega) (by omega) dX0_collectFree_14 (by decide) (fun h_1 => ?_) (fun h_1 => ?_)
    · skip
      exfalso; omega
    · have g_1 : ¬ (sn < k) := (Nat.not_lt.mpr h_1)
      refine gz_aload_n C 0 dX0_collectFree_17 rfl ?_
      refine gz_get (ci := 1) C iwX0 8 rfl rfl 1 (by decide) wk_64 rfl rfl dX0_collectFree_18 ?_
      refine gz_bipush (v := nI 11) C dX0_collectFree_21 (by decide) ?_
      refine gz_ncmp_ge C 63 (by omega) (by omega) dX0_collectFree_23 (by decide) (fun h_2 => ?_) (fun h_2 => ?_)
      · skip
        simp only [f0_collectFree_lp, if_neg g_1, if_pos h_2] at hx
        exact gz_lv [0, 1, 2, 3, 4] rfl (hx hct)
      · have g_2 : ¬ (11 ≤ ct) := (Nat.not_le.mpr h_2)
        refine gz_aload_n C 2 dX0_collectFree_26 rfl ?_
        refine gz_iload_n C 3 dX0_collectFree_27 rfl ?_
        refine gz_iload C 4 dX0_collectFree_28 rfl ?_
        refine gz_callS (wr := []) (n := 3) (ws2 := (wC xo nt es ro ad cI cJ cZ ln fz sx mo sn bw tkv opv shv ldv wyv bdv ct dA dA sta stc fev dl dnv rov)) (st2 := [.int (bI (f1_holds rov z k))]) (cells2 := cells) (slots2 := slots) C (kX1_holds l D xo nt es ro ad cI cJ cZ ln fz sx mo sn bw tkv opv shv ldv wyv bdv ct dA sta stc fev dl dnv rov z k (by first | assumption | omega) (by first | assumption | omega) (by first | assumption | omega)) (WB_S wk_180 wk_181 wk_2 wk_182) (by decide +kernel) ⟨⟨rfl, rfl⟩, Nat.le_trans (by decide) hR.1, Nat.le_trans (by decide) hR.2⟩ [0, 1, 2, 3, 4, 5, 6, 7, 8, 9, 10, 11] [] [0, 1, 2] rfl rfl rfl (by decide) rfl rfl rfl (Nat.le_of_ble_eq_true rfl) dX0_collectFree_30 hce rfl rfl rfl ?_
        refine gz_J (ws2 := (wC xo nt es ro ad cI cJ cZ ln fz sx mo sn bw tkv opv shv ldv wyv bdv ((if (f1_holds rov z k) = true then ct else ct + 1)) dA dA sta stc ((if (f1_holds rov z k) = true then fev else va_up fev ct k)) dl dnv rov)) (lv2 := [(0, .ref es), (1, .ref nt), (2, .ref ro), (3, .int (nI z)), (4, .int (nI k))]) (st2 := []) (pc2 := 57) ?_ (fun J_3 => ?_)
        rotate_left
        · refine gz_bif_ne C 57 dX0_collectFree_33 (by decide) (fun h_3 => ?_) (fun h_3 => ?_)
          · skip
            simp only [if_pos h_3] at J_3 ⊢
            exact gz_lv [0, 1, 2, 3, 4] rfl J_3
          · have g_3 : ¬ ((f1_holds rov z k) = true) := (by rw [h_3]; decide)
            refine gz_aload_n C 0 dX0_collectFree_36 rfl ?_
            refine gz_get (ci := 1) C iwX0 8 rfl rfl 0 (by decide) wk_63 rfl rfl dX0_collectFree_37 ?_
            refine gz_aload_n C 0 dX0_collectFree_40 rfl ?_
            refine gz_get (ci := 1) C iwX0 8 rfl rfl 1 (by decide) wk_64 rfl rfl dX0_collectFree_41 ?_
            refine gz_iload C 4 dX0_collectFree_44 rfl ?_
            refine gz_iast (ws2 := (wC xo nt es ro ad cI cJ cZ ln fz sx mo sn bw tkv opv shv ldv wyv bdv ct dA dA sta stc (va_up fev ct k) dl dnv rov)) C 9 0 rfl rfl (by omega) (by decide) rfl dX0_collectFree_46 ?_
            refine gz_aload_n C 0 dX0_collectFree_47 rfl ?_
            refine gz_dup C dX0_collectFree_48 rfl ?_
            refine gz_get (ci := 1) C iwX0 8 rfl rfl 1 (by decide) wk_64 rfl rfl dX0_collectFree_49 ?_
            refine gz_iconst (v := nI 1) C dX0_collectFree_52 (by decide) ?_
            refine gz_iadd (v := nI (ct + 1)) C dX0_collectFree_53 (nI_add _ _) ?_
            refine gz_put (ci := 1) (ws2 := (wC xo nt es ro ad cI cJ cZ ln fz sx mo sn bw tkv opv shv ldv wyv bdv (ct + 1) dA dA sta stc (va_up fev ct k) dl dnv rov)) C iwX0 8 rfl rfl 1 (by decide) wk_64 rfl tyX0 tyX0_ok nmX0 rfl rfl rfl rfl (Nat.le_of_ble_eq_true rfl) rfl dX0_collectFree_54 ?_
            simp only [if_neg g_3] at J_3 ⊢
            exact gz_lv [0, 1, 2, 3, 4] rfl J_3
        refine gz_iinc (v := nI (k + 1)) (lv2 := [(4, .int (nI (k + 1))), (0, .ref es), (1, .ref nt), (2, .ref ro), (3, .int (nI z))]) (k := 4) C dX0_collectFree_57 rfl (nI_add _ 1) (by decide) rfl ?_
        refine gz_goto C 8 dX0_collectFree_60 (by decide) ?_
        refine gz_lv [1, 2, 3, 4, 0] rfl ?_
        simp only [f0_collectFree_lp, if_neg g_1, if_neg g_2] at hx
        exact ih (k + 1) ((if (f1_holds rov z k) = true then ct else ct + 1)) ((if (f1_holds rov z k) = true then fev else va_up fev ct k)) (by omega) (by first | omega | (split <;> omega)) hx

def f0_collectFree_ct (sn : Nat) (fev : Nat → Nat) (rov : Nat → Nat) (z : Nat) : Nat := (f0_collectFree_lp rov z sn 1 0 fev).2.1
def f0_collectFree_fev (sn : Nat) (fev : Nat → Nat) (rov : Nat → Nat) (z : Nat) : Nat → Nat := (f0_collectFree_lp rov z sn 1 0 fev).2.2
set_option maxRecDepth 100000 in
set_option maxHeartbeats 4000000 in
theorem kX0_collectFree (l : Launch) (D : va_G) (xo : Nat) (nt : Nat) (es : Nat) (ro : Nat) (ad : Nat → Nat) (cI : ClassId) (cJ : ClassId) (cZ : ClassId) (ln : Int32) (fz : Nat) (sx : Bool) (mo : Int32) (sn : Nat) (bw : Int32) (tkv : Nat → Int64) (opv : Nat → Int64) (shv : Nat → Int64) (ldv : Nat → Int32) (wyv : Nat → Int64) (bdv : Nat → Bool) (ct : Nat) (dA : Nat) (sta : Nat) (stc : Int64) (fev : Nat → Nat) (dl : Nat) (dnv : Nat → Int64) (rov : Nat → Nat) (z : Nat) (hsn : sn ≤ 20) (hz : z ≤ 20) (hro : ∀ k, k < z → rov k ≤ 20) : gz_M l yX0_collectFree cX0_collectFree 5 none ({ frames := 1, cells := 0, slots := 0, locals := 23 } : Room) D [(cI, .int), (cJ, .long), (cZ, .boolean)] [.ref es, .ref nt, .ref ro, .int (nI z)] (wC xo nt es ro ad cI cJ cZ ln fz sx mo sn bw tkv opv shv ldv wyv bdv ct dA dA sta stc fev dl dnv rov) (none) (wC xo nt es ro ad cI cJ cZ ln fz sx mo sn bw tkv opv shv ldv wyv bdv (f0_collectFree_ct sn fev rov z) dA dA sta stc (f0_collectFree_fev sn fev rov z) dl dnv rov) 0 0 := by
  refine gz_met l (by decide) (Nat.le_of_ble_eq_true rfl) [(0, .ref es), (1, .ref nt), (2, .ref ro), (3, .int (nI z))] rfl ?_
  intro sz p e s m args below meth c C hr hk hnm
  have C : gz_C p s m args c cX0_collectFree 5 RX0 D [(cI, .int), (cJ, .long), (cZ, .boolean)] (va_A (wC xo nt es ro ad cI cJ cZ ln fz sx mo sn bw tkv opv shv ldv wyv bdv ct dA dA sta stc fev dl dnv rov) sz) := C
  refine gz_aload_n C 0 dX0_collectFree_0 rfl ?_
  refine gz_iconst (v := nI 0) C dX0_collectFree_1 (by decide) ?_
  refine gz_put (ci := 1) (ws2 := (wC xo nt es ro ad cI cJ cZ ln fz sx mo sn bw tkv opv shv ldv wyv bdv 0 dA dA sta stc fev dl dnv rov)) C iwX0 8 rfl rfl 1 (by decide) wk_64 rfl tyX0 tyX0_ok nmX0 rfl rfl rfl rfl (Nat.le_of_ble_eq_true rfl) rfl dX0_collectFree_2 ?_
  refine gz_iconst (v := nI 1) C dX0_collectFree_5 (by decide) ?_
  refine gz_istore (lv2 := [(4, .int (nI 1)), (0, .ref es), (1, .ref nt), (2, .ref ro), (3, .int (nI z))]) C dX0_collectFree_6 (by decide) rfl ?_
  refine gz_lv (lv2 := [(0, .ref es), (1, .ref nt), (2, .ref ro), (3, .int (nI z)), (4, .int (nI 1))]) [1, 2, 3, 4, 0] rfl ?_
  refine lX0_collectFree_lp xo nt es ro ad cI cJ cZ ln fz sx mo sn bw tkv opv shv ldv wyv bdv dA sta stc dl dnv rov z (by first | assumption | omega) (by first | assumption | omega) (by first | assumption | omega) ⟨Nat.le_of_ble_eq_true rfl, Nat.le_of_ble_eq_true rfl⟩ ⟨Nat.zero_le _, Nat.zero_le _⟩ C sn 1 0 fev (by omega) (by first | assumption | omega) ?_
  intro zhct_lp
  exact gz_vret C hr hk (by first | rfl | (simp only [f0_collectFree_ct, f0_collectFree_fev]) | (simp only [f0_collectFree_ct, f0_collectFree_fev]; rfl)) (by first | rfl | (simp only [f0_collectFree_ct, f0_collectFree_fev]) | (simp only [f0_collectFree_ct, f0_collectFree_fev]; rfl)) (Nat.le_refl _) (Nat.le_refl _) dX0_collectFree_63

def f0_earliest_lp (tkv : Nat → Int64) (opv : Nat → Int64) (shv : Nat → Int64) (wyv : Nat → Int64) (bdv : Nat → Bool) (ct : Nat) (fev : Nat → Nat) (dnv : Nat → Int64) (t : Nat) (b : Nat) : Nat → Int64 → Nat → Int64 × Nat
  | 0, le, k => (le, k)
  | n + 1, le, k => f0_earliest_lp tkv opv shv wyv bdv ct fev dnv t b n ((if (f0_has t k) = true then (if f1_goodLeg tkv opv shv wyv bdv (fev k) (dnv ((t * ct) + k)) b < le then f1_goodLeg tkv opv shv wyv bdv (fev k) (dnv ((t * ct) + k)) b else le) else le)) (k + 1)
set_option maxRecDepth 100000 in
set_option maxHeartbeats 4000000 in
theorem lX0_earliest_lp {p : Program} {l : Launch} {e : Env} {R : Room} {s : State} {m : MethodId} {args : Array Value} {below : List Frame} {meth : Method} {c : Code} {cells slots : Nat} {Q : State → Prop} {A : Nat → Prop} {D : va_G} (xo : Nat) (nt : Nat) (es : Nat) (ro : Nat) (ad : Nat → Nat) (cI : ClassId) (cJ : ClassId) (cZ : ClassId) (ln : Int32) (fz : Nat) (sx : Bool) (mo : Int32) (sn : Nat) (bw : Int32) (tkv : Nat → Int64) (opv : Nat → Int64) (shv : Nat → Int64) (ldv : Nat → Int32) (wyv : Nat → Int64) (bdv : Nat → Bool) (ct : Nat) (dA : Nat) (sta : Nat) (stc : Int64) (fev : Nat → Nat) (dl : Nat) (dnv : Nat → Int64) (rov : Nat → Nat) (t : Nat) (b : Nat) (hct : ct ≤ 11) (hfe : ∀ k, k < ct → fev k ≤ 20) (hsa : sta ≤ 20) (hdl : 2 ^ ct * ct ≤ dl) (hdm : dl ≤ 22528) (ht : t < 2 ^ ct) (hb : b ≤ 20) (hR : 3 ≤ R.frames ∧ 73 ≤ R.locals) (hce : cells ≤ R.cells ∧ slots ≤ R.slots) (C : gz_C p s m args c cX0_earliest 7 RX0 D [(cI, .int), (cJ, .long), (cZ, .boolean)] A) : ∀ (n : Nat) (le : Int64) (k : Nat), (k + n = ct) → ((((f0_earliest_lp tkv opv shv wyv bdv ct fev dnv t b n le k).2) + 0 = ct) → GZ p l e R s m args below meth c 7 D A cells slots Q (wC xo nt es ro ad cI cJ cZ ln fz sx mo sn bw tkv opv shv ldv wyv bdv ct dA dA sta stc fev dl dnv rov) [(0, .ref es), (1, .ref nt), (2, .int (nI t)), (3, .int (nI b)), (4, .long ((f0_earliest_lp tkv opv shv wyv bdv ct fev dnv t b n le k).1)), (6, .int (nI ((f0_earliest_lp tkv opv shv wyv bdv ct fev dnv t b n le k).2)))] [] 83) → GZ p l e R s m args below meth c 7 D A cells slots Q (wC xo nt es ro ad cI cJ cZ ln fz sx mo sn bw tkv opv shv ldv wyv bdv ct dA dA sta stc fev dl dnv rov) [(0, .ref es), (1, .ref nt), (2, .int (nI t)), (3, .int (nI b)), (4, .long le), (6, .int (nI k))] [] 26 := by
  intro n
  induction n with
  | zero =>
    intro le k hme  hx
    refine gz_iload C 5 dX0_earliest_26 rfl ?_
    refine gz_aload_n C 0 dX0_earliest_28 rfl ?_
    refine gz_get (ci := 1) C iwX0 8 rfl rfl 1 (by decide) wk_64 rfl rfl dX0_earliest_29 ?_
    refine gz_ncmp_ge C 83 (by omega) (by omega) dX0_earliest_32 (by decide) (fun h_1 => ?_) (fun h_1 => ?_)
    · skip
      exact gz_lv [0, 1, 2, 3, 4, 5] rfl (hx hme )
    · have g_1 : ¬ (ct ≤ k) := (Nat.not_le.mpr h_1)
      exfalso; omega
  | succ n ih =>
    intro le k hme  hx
    refine gz_iload C 5 dX0_earliest_26 rfl ?_
    refine gz_aload_n C 0 dX0_earliest_28 rfl ?_
    refine gz_get (ci := 1) C iwX0 8 rfl rfl 1 (by decide) wk_64 rfl rfl dX0_earliest_29 ?_
    refine gz_ncmp_ge C 83 (by omega) (by omega) dX0_earliest_32 (by decide) (fun h_1 => ?_) (fun h_1 => ?_)
    · skip
      exfalso; omega
    · have g_1 : ¬ (ct ≤ k) := (Nat.not_le.mpr h_1)
      have hq := hfe k (by omega)
      have hp := bz_pow hct
      refine gz_iload_n C 2 dX0_earliest_35 rfl ?_
      refine gz_iload C 5 dX0_earliest_36 rfl ?_
      refine gz_callS (wr := []) (n := 2) (ws2 := (wC xo nt es ro ad cI cJ cZ ln fz sx mo sn bw tkv opv shv ldv wyv bdv ct dA dA sta stc fev dl dnv rov)) (st2 := [.int (bI (f0_has t k))]) (cells2 := cells) (slots2 := slots) C (kX0_has l D xo nt es ro ad cI cJ cZ ln fz sx mo sn bw tkv opv shv ldv wyv bdv ct dA sta stc fev dl dnv rov t k (by first | assumption | omega) (by first | assumption | omega)) (WB_S wk_187 wk_188 wk_3 wk_189) (by decide +kernel) ⟨⟨rfl, rfl⟩, Nat.le_trans (by decide) hR.1, Nat.le_trans (by decide) hR.2⟩ [0, 1, 2, 3, 4, 5, 6, 7, 8, 9, 10, 11] [] [0, 1, 2] rfl rfl rfl (by decide) rfl rfl rfl (Nat.le_of_ble_eq_true rfl) dX0_earliest_38 hce rfl rfl rfl ?_
      refine gz_J (ws2 := (wC xo nt es ro ad cI cJ cZ ln fz sx mo sn bw tkv opv shv ldv wyv bdv ct dA dA sta stc fev dl dnv rov)) (lv2 := [(4, .long ((if (f0_has t k) = true then (if f1_goodLeg tkv opv shv wyv bdv (fev k) (dnv ((t * ct) + k)) b < le then f1_goodLeg tkv opv shv wyv bdv (fev k) (dnv ((t * ct) + k)) b else le) else le))), (0, .ref es), (1, .ref nt), (2, .int (nI t)), (3, .int (nI b)), (6, .int (nI k))]) (st2 := []) (pc2 := 77) ?_ (fun J_2 => ?_)
      rotate_left
      · refine gz_bif_eq C 77 dX0_earliest_41 (by decide) (fun h_2 => ?_) (fun h_2 => ?_)
        · have g_2 : ¬ ((f0_has t k) = true) := (by rw [h_2]; decide)
          simp only [if_neg g_2] at J_2 ⊢
          exact gz_lv [4, 0, 1, 2, 3, 5] rfl J_2
        · skip
          refine gz_lload C 4 dX0_earliest_44 rfl ?_
          refine gz_aload_n C 1 dX0_earliest_46 rfl ?_
          refine gz_aload_n C 0 dX0_earliest_47 rfl ?_
          refine gz_get (ci := 1) C iwX0 8 rfl rfl 0 (by decide) wk_63 rfl rfl dX0_earliest_48 ?_
          refine gz_iload C 5 dX0_earliest_51 rfl ?_
          refine gz_iald C 9 0 rfl rfl (by omega) (by decide) dX0_earliest_53 ?_
          refine gz_aload_n C 0 dX0_earliest_54 rfl ?_
          refine gz_get (ci := 1) C iwX0 8 rfl rfl 2 (by decide) wk_65 rfl rfl dX0_earliest_55 ?_
          refine gz_iload_n C 2 dX0_earliest_58 rfl ?_
          refine gz_aload_n C 0 dX0_earliest_59 rfl ?_
          refine gz_get (ci := 1) C iwX0 8 rfl rfl 1 (by decide) wk_64 rfl rfl dX0_earliest_60 ?_
          refine gz_imul (v := nI (t * ct)) C dX0_earliest_63 (pk_mul _ _) ?_
          refine gz_iload C 5 dX0_earliest_64 rfl ?_
          refine gz_iadd (v := nI ((t * ct) + k)) C dX0_earliest_66 (nI_add _ _) ?_
          refine gz_lald C 10 1 rfl rfl (bz_ix ht (by omega) hdl) (by omega) dX0_earliest_67 ?_
          refine gz_iload_n C 3 dX0_earliest_68 rfl ?_
          refine gz_callV (wr := []) (n := 3) (ws2 := (wC xo nt es ro ad cI cJ cZ ln fz sx mo sn bw tkv opv shv ldv wyv bdv ct dA dA sta stc fev dl dnv rov)) (st2 := [.long (f1_goodLeg tkv opv shv wyv bdv (fev k) (dnv ((t * ct) + k)) b), .long le]) (cells2 := cells) (slots2 := slots) (ci := 2) C (kX1_goodLeg l D xo nt es ro ad cI cJ cZ ln fz sx mo sn bw tkv opv shv ldv wyv bdv ct dA sta stc fev dl dnv rov (fev k) (dnv ((t * ct) + k)) b (by first | assumption | omega) (by first | assumption | omega)) (WB_V wk_164 wk_165 wk_166 wk_2 wk_167) (by decide +kernel) ⟨⟨rfl, rfl⟩, Nat.le_trans (by decide) hR.1, Nat.le_trans (by decide) hR.2⟩ [0, 1, 2, 3, 4, 5, 6, 7, 8, 9, 10, 11] [] [0, 1, 2] rfl rfl rfl (by decide) rfl 1 rfl rfl rfl rfl (Nat.le_of_ble_eq_true rfl) dX0_earliest_69 hce rfl rfl rfl ?_
          refine gz_mmin_long (v := (if f1_goodLeg tkv opv shv wyv bdv (fev k) (dnv ((t * ct) + k)) b < le then f1_goodLeg tkv opv shv wyv bdv (fev k) (dnv ((t * ct) + k)) b else le)) C wk_194 wk_195 wk_5 wk_196 (Nat.le_trans (by decide) hR.1) (Nat.le_trans (by decide) hR.2) hce.1 hce.2 dX0_earliest_72 rfl ?_
          refine gz_lstore (lv2 := [(4, .long ((if f1_goodLeg tkv opv shv wyv bdv (fev k) (dnv ((t * ct) + k)) b < le then f1_goodLeg tkv opv shv wyv bdv (fev k) (dnv ((t * ct) + k)) b else le))), (0, .ref es), (1, .ref nt), (2, .int (nI t)), (3, .int (nI b)), (6, .int (nI k))]) C dX0_earliest_75 (by decide) rfl ?_
          simp only [if_pos h_2] at J_2 ⊢
          exact gz_lv [0, 1, 2, 3, 4, 5] rfl J_2
      refine gz_iinc (v := nI (k + 1)) (lv2 := [(6, .int (nI (k + 1))), (4, .long ((if (f0_has t k) = true then (if f1_goodLeg tkv opv shv wyv bdv (fev k) (dnv ((t * ct) + k)) b < le then f1_goodLeg tkv opv shv wyv bdv (fev k) (dnv ((t * ct) + k)) b else le) else le))), (0, .ref es), (1, .ref nt), (2, .int (nI t)), (3, .int (nI b))]) (k := 5) C dX0_earliest_77 rfl (nI_add _ 1) (by decide) rfl ?_
      refine gz_goto C 26 dX0_earliest_80 (by decide) ?_
      refine gz_lv [2, 3, 4, 5, 1, 0] rfl ?_
      simp only [f0_earliest_lp, if_neg g_1] at hx
      exact ih ((if (f0_has t k) = true then (if f1_goodLeg tkv opv shv wyv bdv (fev k) (dnv ((t * ct) + k)) b < le then f1_goodLeg tkv opv shv wyv bdv (fev k) (dnv ((t * ct) + k)) b else le) else le)) (k + 1) (by omega)  hx

def f0_earliest (tkv : Nat → Int64) (opv : Nat → Int64) (shv : Nat → Int64) (wyv : Nat → Int64) (bdv : Nat → Bool) (ct : Nat) (sta : Nat) (stc : Int64) (fev : Nat → Nat) (dnv : Nat → Int64) (t : Nat) (b : Nat) : Int64 := (if t = 0 then f1_goodLeg tkv opv shv wyv bdv sta stc b else (f0_earliest_lp tkv opv shv wyv bdv ct fev dnv t b ct 1000000000000000 0).1)
set_option maxRecDepth 100000 in
set_option maxHeartbeats 4000000 in
theorem kX0_earliest (l : Launch) (D : va_G) (xo : Nat) (nt : Nat) (es : Nat) (ro : Nat) (ad : Nat → Nat) (cI : ClassId) (cJ : ClassId) (cZ : ClassId) (ln : Int32) (fz : Nat) (sx : Bool) (mo : Int32) (sn : Nat) (bw : Int32) (tkv : Nat → Int64) (opv : Nat → Int64) (shv : Nat → Int64) (ldv : Nat → Int32) (wyv : Nat → Int64) (bdv : Nat → Bool) (ct : Nat) (dA : Nat) (sta : Nat) (stc : Int64) (fev : Nat → Nat) (dl : Nat) (dnv : Nat → Int64) (rov : Nat → Nat) (t : Nat) (b : Nat) (hct : ct ≤ 11) (hfe : ∀ k, k < ct → fev k ≤ 20) (hsa : sta ≤ 20) (hdl : 2 ^ ct * ct ≤ dl) (hdm : dl ≤ 22528) (ht : t < 2 ^ ct) (hb : b ≤ 20) : gz_M l yX0_earliest cX0_earliest 7 (some .long) ({ frames := 3, cells := 0, slots := 0, locals := 73 } : Room) D [(cI, .int), (cJ, .long), (cZ, .boolean)] [.ref es, .ref nt, .int (nI t), .int (nI b)] (wC xo nt es ro ad cI cJ cZ ln fz sx mo sn bw tkv opv shv ldv wyv bdv ct dA dA sta stc fev dl dnv rov) (some (.long (f0_earliest tkv opv shv wyv bdv ct sta stc fev dnv t b))) (wC xo nt es ro ad cI cJ cZ ln fz sx mo sn bw tkv opv shv ldv wyv bdv ct dA dA sta stc fev dl dnv rov) 0 0 := by
  refine gz_met l (by decide) (Nat.le_of_ble_eq_true rfl) [(0, .ref es), (1, .ref nt), (2, .int (nI t)), (3, .int (nI b))] rfl ?_
  intro sz p e s m args below meth c C hr hk hnm
  have C : gz_C p s m args c cX0_earliest 7 RX0 D [(cI, .int), (cJ, .long), (cZ, .boolean)] (va_A (wC xo nt es ro ad cI cJ cZ ln fz sx mo sn bw tkv opv shv ldv wyv bdv ct dA dA sta stc fev dl dnv rov) sz) := C
  have hp := bz_pow hct
  refine gz_iload_n C 2 dX0_earliest_0 rfl ?_
  refine gz_nif_ne C 18 (by omega) dX0_earliest_1 (by decide) (fun h_1 => ?_) (fun h_1 => ?_)
  · have g_1 : ¬ (t = 0) := h_1
    refine gz_ldc2 (v := 1000000000000000) C wk_175 dX0_earliest_18 ?_
    refine gz_lstore (lv2 := [(4, .long 1000000000000000), (0, .ref es), (1, .ref nt), (2, .int (nI t)), (3, .int (nI b))]) C dX0_earliest_21 (by decide) rfl ?_
    refine gz_iconst (v := nI 0) C dX0_earliest_23 (by decide) ?_
    refine gz_istore (lv2 := [(6, .int (nI 0)), (4, .long 1000000000000000), (0, .ref es), (1, .ref nt), (2, .int (nI t)), (3, .int (nI b))]) C dX0_earliest_24 (by decide) rfl ?_
    refine gz_lv (lv2 := [(0, .ref es), (1, .ref nt), (2, .int (nI t)), (3, .int (nI b)), (4, .long 1000000000000000), (6, .int (nI 0))]) [2, 3, 4, 5, 1, 0] rfl ?_
    refine lX0_earliest_lp xo nt es ro ad cI cJ cZ ln fz sx mo sn bw tkv opv shv ldv wyv bdv ct dA sta stc fev dl dnv rov t b (by first | assumption | omega) (by first | assumption | omega) (by first | assumption | omega) (by first | assumption | omega) (by first | assumption | omega) (by first | assumption | omega) (by first | assumption | omega) ⟨Nat.le_of_ble_eq_true rfl, Nat.le_of_ble_eq_true rfl⟩ ⟨Nat.zero_le _, Nat.zero_le _⟩ C ct 1000000000000000 0 (by omega)  ?_
    intro zme_lp
    refine gz_lload C 4 dX0_earliest_83 rfl ?_
    exact gz_lret C hr hk (by first | rfl | (simp only [f0_earliest, if_neg g_1]) | (simp only [f0_earliest, if_neg g_1]; rfl)) rfl (Nat.le_refl _) (Nat.le_refl _) dX0_earliest_85
  · skip
    refine gz_aload_n C 1 dX0_earliest_4 rfl ?_
    refine gz_aload_n C 0 dX0_earliest_5 rfl ?_
    refine gz_get (ci := 1) C iwX0 8 rfl rfl 3 (by decide) wk_66 rfl rfl dX0_earliest_6 ?_
    refine gz_aload_n C 0 dX0_earliest_9 rfl ?_
    refine gz_get (ci := 1) C iwX0 8 rfl rfl 4 (by decide) wk_67 rfl rfl dX0_earliest_10 ?_
    refine gz_iload_n C 3 dX0_earliest_13 rfl ?_
    refine gz_callV (wr := []) (n := 3) (ws2 := (wC xo nt es ro ad cI cJ cZ ln fz sx mo sn bw tkv opv shv ldv wyv bdv ct dA dA sta stc fev dl dnv rov)) (st2 := [.long (f1_goodLeg tkv opv shv wyv bdv sta stc b)]) (cells2 := 0) (slots2 := 0) (ci := 2) C (kX1_goodLeg l D xo nt es ro ad cI cJ cZ ln fz sx mo sn bw tkv opv shv ldv wyv bdv ct dA sta stc fev dl dnv rov sta stc b (by first | assumption | omega) (by first | assumption | omega)) (WB_V wk_164 wk_165 wk_166 wk_2 wk_167) (by decide +kernel) ⟨⟨rfl, rfl⟩, Nat.le_of_ble_eq_true rfl, Nat.le_of_ble_eq_true rfl⟩ [0, 1, 2, 3, 4, 5, 6, 7, 8, 9, 10, 11] [] [0, 1, 2] rfl rfl rfl (by decide) rfl 1 rfl rfl rfl rfl (Nat.le_of_ble_eq_true rfl) dX0_earliest_14 ⟨Nat.zero_le _, Nat.zero_le _⟩ rfl rfl rfl ?_
    exact gz_lret C hr hk (by first | rfl | (simp only [f0_earliest, if_pos h_1]) | (simp only [f0_earliest, if_pos h_1]; rfl)) rfl (Nat.le_refl _) (Nat.le_refl _) dX0_earliest_17

def f0_fits (tkv : Nat → Int64) (opv : Nat → Int64) (shv : Nat → Int64) (wyv : Nat → Int64) (bdv : Nat → Bool) (ct : Nat) (fev : Nat → Nat) (dnv : Nat → Int64) (t : Nat) (k : Nat) (b : Nat) (du : Int64) : Bool := (if (f0_has t k) = true then (if (f1_goodLeg tkv opv shv wyv bdv (fev k) (dnv ((t * ct) + k)) b) = du then true else false) else false)
set_option maxRecDepth 100000 in
set_option maxHeartbeats 4000000 in
theorem kX0_fits (l : Launch) (D : va_G) (xo : Nat) (nt : Nat) (es : Nat) (ro : Nat) (ad : Nat → Nat) (cI : ClassId) (cJ : ClassId) (cZ : ClassId) (ln : Int32) (fz : Nat) (sx : Bool) (mo : Int32) (sn : Nat) (bw : Int32) (tkv : Nat → Int64) (opv : Nat → Int64) (shv : Nat → Int64) (ldv : Nat → Int32) (wyv : Nat → Int64) (bdv : Nat → Bool) (ct : Nat) (dA : Nat) (sta : Nat) (stc : Int64) (fev : Nat → Nat) (dl : Nat) (dnv : Nat → Int64) (rov : Nat → Nat) (t : Nat) (k : Nat) (b : Nat) (du : Int64) (hct : ct ≤ 11) (hfe : ∀ k, k < ct → fev k ≤ 20) (hsa : sta ≤ 20) (hdl : 2 ^ ct * ct ≤ dl) (hdm : dl ≤ 22528) (ht : t < 2 ^ ct) (hkc : k < ct) (hb : b ≤ 20) : gz_M l yX0_fits cX0_fits 7 (some .boolean) ({ frames := 3, cells := 0, slots := 0, locals := 73 } : Room) D [(cI, .int), (cJ, .long), (cZ, .boolean)] [.ref es, .ref nt, .int (nI t), .int (nI k), .int (nI b), .long du] (wC xo nt es ro ad cI cJ cZ ln fz sx mo sn bw tkv opv shv ldv wyv bdv ct dA dA sta stc fev dl dnv rov) (some (.int (bI (f0_fits tkv opv shv wyv bdv ct fev dnv t k b du)))) (wC xo nt es ro ad cI cJ cZ ln fz sx mo sn bw tkv opv shv ldv wyv bdv ct dA dA sta stc fev dl dnv rov) 0 0 := by
  refine gz_met l (by decide) (Nat.le_of_ble_eq_true rfl) [(0, .ref es), (1, .ref nt), (2, .int (nI t)), (3, .int (nI k)), (4, .int (nI b)), (5, .long du)] rfl ?_
  intro sz p e s m args below meth c C hr hk hnm
  have C : gz_C p s m args c cX0_fits 7 RX0 D [(cI, .int), (cJ, .long), (cZ, .boolean)] (va_A (wC xo nt es ro ad cI cJ cZ ln fz sx mo sn bw tkv opv shv ldv wyv bdv ct dA dA sta stc fev dl dnv rov) sz) := C
  have hq := hfe k hkc
  have hp := bz_pow hct
  refine gz_iload_n C 2 dX0_fits_0 rfl ?_
  refine gz_iload_n C 3 dX0_fits_1 rfl ?_
  refine gz_callS (wr := []) (n := 2) (ws2 := (wC xo nt es ro ad cI cJ cZ ln fz sx mo sn bw tkv opv shv ldv wyv bdv ct dA dA sta stc fev dl dnv rov)) (st2 := [.int (bI (f0_has t k))]) (cells2 := 0) (slots2 := 0) C (kX0_has l D xo nt es ro ad cI cJ cZ ln fz sx mo sn bw tkv opv shv ldv wyv bdv ct dA sta stc fev dl dnv rov t k (by first | assumption | omega) (by first | assumption | omega)) (WB_S wk_187 wk_188 wk_3 wk_189) (by decide +kernel) ⟨⟨rfl, rfl⟩, Nat.le_of_ble_eq_true rfl, Nat.le_of_ble_eq_true rfl⟩ [0, 1, 2, 3, 4, 5, 6, 7, 8, 9, 10, 11] [] [0, 1, 2] rfl rfl rfl (by decide) rfl rfl rfl (Nat.le_of_ble_eq_true rfl) dX0_fits_2 ⟨Nat.zero_le _, Nat.zero_le _⟩ rfl rfl rfl ?_
  refine gz_J (ws2 := (wC xo nt es ro ad cI cJ cZ ln fz sx mo sn bw tkv opv shv ldv wyv bdv ct dA dA sta stc fev dl dnv rov)) (lv2 := [(0, .ref es), (1, .ref nt), (2, .int (nI t)), (3, .int (nI k)), (4, .int (nI b)), (5, .long du)]) (st2 := [.int (nI ((if (f0_has t k) = true then (if (f1_goodLeg tkv opv shv wyv bdv (fev k) (dnv ((t * ct) + k)) b) = du then 1 else 0) else 0)))]) (pc2 := 44) ?_ (fun J_1 => ?_)
  rotate_left
  · refine gz_bif_eq C 43 dX0_fits_5 (by decide) (fun h_1 => ?_) (fun h_1 => ?_)
    · have g_1 : ¬ ((f0_has t k) = true) := (by rw [h_1]; decide)
      refine gz_iconst (v := nI 0) C dX0_fits_43 (by decide) ?_
      simp only [if_neg g_1] at J_1 ⊢
      exact gz_lv [0, 1, 2, 3, 4, 5] rfl J_1
    · skip
      refine gz_aload_n C 1 dX0_fits_8 rfl ?_
      refine gz_aload_n C 0 dX0_fits_9 rfl ?_
      refine gz_get (ci := 1) C iwX0 8 rfl rfl 0 (by decide) wk_63 rfl rfl dX0_fits_10 ?_
      refine gz_iload_n C 3 dX0_fits_13 rfl ?_
      refine gz_iald C 9 0 rfl rfl (by omega) (by decide) dX0_fits_14 ?_
      refine gz_aload_n C 0 dX0_fits_15 rfl ?_
      refine gz_get (ci := 1) C iwX0 8 rfl rfl 2 (by decide) wk_65 rfl rfl dX0_fits_16 ?_
      refine gz_iload_n C 2 dX0_fits_19 rfl ?_
      refine gz_aload_n C 0 dX0_fits_20 rfl ?_
      refine gz_get (ci := 1) C iwX0 8 rfl rfl 1 (by decide) wk_64 rfl rfl dX0_fits_21 ?_
      refine gz_imul (v := nI (t * ct)) C dX0_fits_24 (pk_mul _ _) ?_
      refine gz_iload_n C 3 dX0_fits_25 rfl ?_
      refine gz_iadd (v := nI ((t * ct) + k)) C dX0_fits_26 (nI_add _ _) ?_
      refine gz_lald C 10 1 rfl rfl (bz_ix ht hkc hdl) (by omega) dX0_fits_27 ?_
      refine gz_iload C 4 dX0_fits_28 rfl ?_
      refine gz_callV (wr := []) (n := 3) (ws2 := (wC xo nt es ro ad cI cJ cZ ln fz sx mo sn bw tkv opv shv ldv wyv bdv ct dA dA sta stc fev dl dnv rov)) (st2 := [.long (f1_goodLeg tkv opv shv wyv bdv (fev k) (dnv ((t * ct) + k)) b)]) (cells2 := 0) (slots2 := 0) (ci := 2) C (kX1_goodLeg l D xo nt es ro ad cI cJ cZ ln fz sx mo sn bw tkv opv shv ldv wyv bdv ct dA sta stc fev dl dnv rov (fev k) (dnv ((t * ct) + k)) b (by first | assumption | omega) (by first | assumption | omega)) (WB_V wk_164 wk_165 wk_166 wk_2 wk_167) (by decide +kernel) ⟨⟨rfl, rfl⟩, Nat.le_of_ble_eq_true rfl, Nat.le_of_ble_eq_true rfl⟩ [0, 1, 2, 3, 4, 5, 6, 7, 8, 9, 10, 11] [] [0, 1, 2] rfl rfl rfl (by decide) rfl 1 rfl rfl rfl rfl (Nat.le_of_ble_eq_true rfl) dX0_fits_30 ⟨Nat.zero_le _, Nat.zero_le _⟩ rfl rfl rfl ?_
      refine gz_lload C 5 dX0_fits_33 rfl ?_
      refine gz_J (ws2 := (wC xo nt es ro ad cI cJ cZ ln fz sx mo sn bw tkv opv shv ldv wyv bdv ct dA dA sta stc fev dl dnv rov)) (lv2 := [(0, .ref es), (1, .ref nt), (2, .int (nI t)), (3, .int (nI k)), (4, .int (nI b)), (5, .long du)]) (st2 := [.int (nI ((if (f1_goodLeg tkv opv shv wyv bdv (fev k) (dnv ((t * ct) + k)) b) = du then 1 else 0)))]) (pc2 := 44) ?_ (fun J_2 => ?_)
      rotate_left
      · refine gz_lcmp_ne C 43 dX0_fits_35 dX0_fits_36 (by decide) (fun h_2 => ?_) (fun h_2 => ?_)
        · have g_2 : ¬ ((f1_goodLeg tkv opv shv wyv bdv (fev k) (dnv ((t * ct) + k)) b) = du) := h_2
          refine gz_iconst (v := nI 0) C dX0_fits_43 (by decide) ?_
          simp only [if_neg g_2] at J_2 ⊢
          exact gz_lv [0, 1, 2, 3, 4, 5] rfl J_2
        · skip
          refine gz_iconst (v := nI 1) C dX0_fits_39 (by decide) ?_
          refine gz_goto C 44 dX0_fits_40 (by decide) ?_
          simp only [if_pos h_2] at J_2 ⊢
          exact gz_lv [0, 1, 2, 3, 4, 5] rfl J_2
      simp only [if_pos h_1] at J_1 ⊢
      exact gz_lv [0, 1, 2, 3, 4, 5] rfl J_1
  refine gz_sw (v := .int (nI ((if (f0_has t k) = true then (if (f1_goodLeg tkv opv shv wyv bdv (fev k) (dnv ((t * ct) + k)) b) = du then 1 else 0) else 0)))) (w := .int (bI ((if (f0_has t k) = true then (if (f1_goodLeg tkv opv shv wyv bdv (fev k) (dnv ((t * ct) + k)) b) = du then true else false) else false)))) (by rw [show nI ((if (f0_has t k) = true then (if (f1_goodLeg tkv opv shv wyv bdv (fev k) (dnv ((t * ct) + k)) b) = du then 1 else 0) else 0)) = bI ((if (f0_has t k) = true then (if (f1_goodLeg tkv opv shv wyv bdv (fev k) (dnv ((t * ct) + k)) b) = du then true else false) else false)) from (by first | rfl | decide | ((repeat' split) <;> rfl))]) ?_
  exact gz_zret C hr hk (bI_nar _) (by first | rfl | (simp only [f0_fits]) | (simp only [f0_fits]; rfl)) rfl (Nat.le_refl _) (Nat.le_refl _) dX0_fits_44

def f0_leastLast_lp (tkv : Nat → Int64) (opv : Nat → Int64) (shv : Nat → Int64) (wyv : Nat → Int64) (bdv : Nat → Bool) (ct : Nat) (fev : Nat → Nat) (dnv : Nat → Int64) (t : Nat) (b : Nat) (du : Int64) : Nat → Nat → Nat
  | 0, k => k
  | n + 1, k => if (f0_fits tkv opv shv wyv bdv ct fev dnv t k b du) = true then k else f0_leastLast_lp tkv opv shv wyv bdv ct fev dnv t b du n (k + 1)
set_option maxRecDepth 100000 in
set_option maxHeartbeats 4000000 in
theorem lX0_leastLast_lp {p : Program} {l : Launch} {e : Env} {R : Room} {s : State} {m : MethodId} {args : Array Value} {below : List Frame} {meth : Method} {c : Code} {cells slots : Nat} {Q : State → Prop} {A : Nat → Prop} {D : va_G} (xo : Nat) (nt : Nat) (es : Nat) (ro : Nat) (ad : Nat → Nat) (cI : ClassId) (cJ : ClassId) (cZ : ClassId) (ln : Int32) (fz : Nat) (sx : Bool) (mo : Int32) (sn : Nat) (bw : Int32) (tkv : Nat → Int64) (opv : Nat → Int64) (shv : Nat → Int64) (ldv : Nat → Int32) (wyv : Nat → Int64) (bdv : Nat → Bool) (ct : Nat) (dA : Nat) (sta : Nat) (stc : Int64) (fev : Nat → Nat) (dl : Nat) (dnv : Nat → Int64) (rov : Nat → Nat) (t : Nat) (b : Nat) (du : Int64) (hct : ct ≤ 11) (hfe : ∀ k, k < ct → fev k ≤ 20) (hsa : sta ≤ 20) (hdl : 2 ^ ct * ct ≤ dl) (hdm : dl ≤ 22528) (ht : t < 2 ^ ct) (hb : b ≤ 20) (h1 : 1 ≤ ct) (hR : 4 ≤ R.frames ∧ 99 ≤ R.locals) (hce : cells ≤ R.cells ∧ slots ≤ R.slots) (C : gz_C p s m args c cX0_leastLast 7 RX0 D [(cI, .int), (cJ, .long), (cZ, .boolean)] A) : ∀ (n : Nat) (k : Nat), (k + n = ct - 1) → (GZ p l e R s m args below meth c 7 D A cells slots Q (wC xo nt es ro ad cI cJ cZ ln fz sx mo sn bw tkv opv shv ldv wyv bdv ct dA dA sta stc fev dl dnv rov) [(0, .ref es), (1, .ref nt), (2, .int (nI t)), (3, .int (nI b)), (4, .long du), (6, .int (nI (f0_leastLast_lp tkv opv shv wyv bdv ct fev dnv t b du n k)))] [] 34) → GZ p l e R s m args below meth c 7 D A cells slots Q (wC xo nt es ro ad cI cJ cZ ln fz sx mo sn bw tkv opv shv ldv wyv bdv ct dA dA sta stc fev dl dnv rov) [(0, .ref es), (1, .ref nt), (2, .int (nI t)), (3, .int (nI b)), (4, .long du), (6, .int (nI k))] [] 3 := by
  intro n
  induction n with
  | zero =>
    intro k hme  hx
    refine gz_iload C 5 dX0_leastLast_3 rfl ?_
    refine gz_aload_n C 0 dX0_leastLast_5 rfl ?_
    refine gz_get (ci := 1) C iwX0 8 rfl rfl 1 (by decide) wk_64 rfl rfl dX0_leastLast_6 ?_
    refine gz_iconst (v := nI 1) C dX0_leastLast_9 (by decide) ?_
    refine gz_isub (v := nI (ct - 1)) C dX0_leastLast_10 (pk_sub (by first | omega | exact Nat.one_le_two_pow)) ?_
    refine gz_ncmp_ge C 34 (by omega) (by omega) dX0_leastLast_11 (by decide) (fun h_1 => ?_) (fun h_1 => ?_)
    · skip
      exact gz_lv [0, 1, 2, 3, 4, 5] rfl (hx )
    · have g_1 : ¬ ((ct - 1) ≤ k) := (Nat.not_le.mpr h_1)
      exfalso; omega
  | succ n ih =>
    intro k hme  hx
    refine gz_iload C 5 dX0_leastLast_3 rfl ?_
    refine gz_aload_n C 0 dX0_leastLast_5 rfl ?_
    refine gz_get (ci := 1) C iwX0 8 rfl rfl 1 (by decide) wk_64 rfl rfl dX0_leastLast_6 ?_
    refine gz_iconst (v := nI 1) C dX0_leastLast_9 (by decide) ?_
    refine gz_isub (v := nI (ct - 1)) C dX0_leastLast_10 (pk_sub (by first | omega | exact Nat.one_le_two_pow)) ?_
    refine gz_ncmp_ge C 34 (by omega) (by omega) dX0_leastLast_11 (by decide) (fun h_1 => ?_) (fun h_1 => ?_)
    · skip
      exfalso; omega
    · have g_1 : ¬ ((ct - 1) ≤ k) := (Nat.not_le.mpr h_1)
      refine gz_aload_n C 0 dX0_leastLast_14 rfl ?_
      refine gz_aload_n C 1 dX0_leastLast_15 rfl ?_
      refine gz_iload_n C 2 dX0_leastLast_16 rfl ?_
      refine gz_iload C 5 dX0_leastLast_17 rfl ?_
      refine gz_iload_n C 3 dX0_leastLast_19 rfl ?_
      refine gz_lload C 4 dX0_leastLast_20 rfl ?_
      refine gz_callV (wr := []) (n := 5) (ws2 := (wC xo nt es ro ad cI cJ cZ ln fz sx mo sn bw tkv opv shv ldv wyv bdv ct dA dA sta stc fev dl dnv rov)) (st2 := [.int (bI (f0_fits tkv opv shv wyv bdv ct fev dnv t k b du))]) (cells2 := cells) (slots2 := slots) (ci := 1) C (kX0_fits l D xo nt es ro ad cI cJ cZ ln fz sx mo sn bw tkv opv shv ldv wyv bdv ct dA sta stc fev dl dnv rov t k b du (by first | assumption | omega) (by first | assumption | omega) (by first | assumption | omega) (by first | assumption | omega) (by first | assumption | omega) (by first | assumption | omega) (by first | assumption | omega) (by first | assumption | omega)) (WB_V wk_205 wk_207 ws_6 wk_3 wk_208) (by decide +kernel) ⟨⟨rfl, rfl⟩, Nat.le_trans (by decide) hR.1, Nat.le_trans (by decide) hR.2⟩ [0, 1, 2, 3, 4, 5, 6, 7, 8, 9, 10, 11] [] [0, 1, 2] rfl rfl rfl (by decide) rfl 8 rfl rfl rfl rfl (Nat.le_of_ble_eq_true rfl) dX0_leastLast_22 hce rfl rfl rfl ?_
      refine gz_bif_ne C 34 dX0_leastLast_25 (by decide) (fun h_2 => ?_) (fun h_2 => ?_)
      · skip
        simp only [f0_leastLast_lp, if_neg g_1, if_pos h_2] at hx
        exact gz_lv [0, 1, 2, 3, 4, 5] rfl (hx )
      · have g_2 : ¬ ((f0_fits tkv opv shv wyv bdv ct fev dnv t k b du) = true) := (by rw [h_2]; decide)
        refine gz_iinc (v := nI (k + 1)) (lv2 := [(6, .int (nI (k + 1))), (0, .ref es), (1, .ref nt), (2, .int (nI t)), (3, .int (nI b)), (4, .long du)]) (k := 5) C dX0_leastLast_28 rfl (nI_add _ 1) (by decide) rfl ?_
        refine gz_goto C 3 dX0_leastLast_31 (by decide) ?_
        refine gz_lv [1, 2, 3, 4, 5, 0] rfl ?_
        simp only [f0_leastLast_lp, if_neg g_1, if_neg g_2] at hx
        exact ih (k + 1) (by omega)  hx

def f0_leastLast (tkv : Nat → Int64) (opv : Nat → Int64) (shv : Nat → Int64) (wyv : Nat → Int64) (bdv : Nat → Bool) (ct : Nat) (fev : Nat → Nat) (dnv : Nat → Int64) (t : Nat) (b : Nat) (du : Int64) : Nat := f0_leastLast_lp tkv opv shv wyv bdv ct fev dnv t b du (ct - 1) 0
set_option maxRecDepth 100000 in
set_option maxHeartbeats 4000000 in
theorem kX0_leastLast (l : Launch) (D : va_G) (xo : Nat) (nt : Nat) (es : Nat) (ro : Nat) (ad : Nat → Nat) (cI : ClassId) (cJ : ClassId) (cZ : ClassId) (ln : Int32) (fz : Nat) (sx : Bool) (mo : Int32) (sn : Nat) (bw : Int32) (tkv : Nat → Int64) (opv : Nat → Int64) (shv : Nat → Int64) (ldv : Nat → Int32) (wyv : Nat → Int64) (bdv : Nat → Bool) (ct : Nat) (dA : Nat) (sta : Nat) (stc : Int64) (fev : Nat → Nat) (dl : Nat) (dnv : Nat → Int64) (rov : Nat → Nat) (t : Nat) (b : Nat) (du : Int64) (hct : ct ≤ 11) (hfe : ∀ k, k < ct → fev k ≤ 20) (hsa : sta ≤ 20) (hdl : 2 ^ ct * ct ≤ dl) (hdm : dl ≤ 22528) (ht : t < 2 ^ ct) (hb : b ≤ 20) (h1 : 1 ≤ ct) : gz_M l yX0_leastLast cX0_leastLast 7 (some .int) ({ frames := 4, cells := 0, slots := 0, locals := 99 } : Room) D [(cI, .int), (cJ, .long), (cZ, .boolean)] [.ref es, .ref nt, .int (nI t), .int (nI b), .long du] (wC xo nt es ro ad cI cJ cZ ln fz sx mo sn bw tkv opv shv ldv wyv bdv ct dA dA sta stc fev dl dnv rov) (some (.int (nI (f0_leastLast tkv opv shv wyv bdv ct fev dnv t b du)))) (wC xo nt es ro ad cI cJ cZ ln fz sx mo sn bw tkv opv shv ldv wyv bdv ct dA dA sta stc fev dl dnv rov) 0 0 := by
  refine gz_met l (by decide) (Nat.le_of_ble_eq_true rfl) [(0, .ref es), (1, .ref nt), (2, .int (nI t)), (3, .int (nI b)), (4, .long du)] rfl ?_
  intro sz p e s m args below meth c C hr hk hnm
  have C : gz_C p s m args c cX0_leastLast 7 RX0 D [(cI, .int), (cJ, .long), (cZ, .boolean)] (va_A (wC xo nt es ro ad cI cJ cZ ln fz sx mo sn bw tkv opv shv ldv wyv bdv ct dA dA sta stc fev dl dnv rov) sz) := C
  refine gz_iconst (v := nI 0) C dX0_leastLast_0 (by decide) ?_
  refine gz_istore (lv2 := [(6, .int (nI 0)), (0, .ref es), (1, .ref nt), (2, .int (nI t)), (3, .int (nI b)), (4, .long du)]) C dX0_leastLast_1 (by decide) rfl ?_
  refine gz_lv (lv2 := [(0, .ref es), (1, .ref nt), (2, .int (nI t)), (3, .int (nI b)), (4, .long du), (6, .int (nI 0))]) [1, 2, 3, 4, 5, 0] rfl ?_
  refine lX0_leastLast_lp xo nt es ro ad cI cJ cZ ln fz sx mo sn bw tkv opv shv ldv wyv bdv ct dA sta stc fev dl dnv rov t b du (by first | assumption | omega) (by first | assumption | omega) (by first | assumption | omega) (by first | assumption | omega) (by first | assumption | omega) (by first | assumption | omega) (by first | assumption | omega) (by first | assumption | omega) ⟨Nat.le_of_ble_eq_true rfl, Nat.le_of_ble_eq_true rfl⟩ ⟨Nat.zero_le _, Nat.zero_le _⟩ C (ct - 1) 0 (by omega)  ?_
  refine gz_iload C 5 dX0_leastLast_34 rfl ?_
  exact gz_iret C hr hk (by first | rfl | (simp only [f0_leastLast]) | (simp only [f0_leastLast]; rfl)) rfl (Nat.le_refl _) (Nat.le_refl _) dX0_leastLast_36

