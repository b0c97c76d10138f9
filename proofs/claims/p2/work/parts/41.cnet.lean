def f1_between (a : Nat) (b : Nat) : Nat := (a * 21) + b
set_option maxRecDepth 100000 in
set_option maxHeartbeats 4000000 in
theorem kX1_between (l : Launch) (D : va_G) (xo : Nat) (nt : Nat) (es : Nat) (ro : Nat) (ad : Nat → Nat) (cI : ClassId) (cJ : ClassId) (cZ : ClassId) (ln : Int32) (fz : Nat) (sx : Bool) (mo : Int32) (sn : Nat) (bw : Int32) (tkv : Nat → Int64) (opv : Nat → Int64) (shv : Nat → Int64) (ldv : Nat → Int32) (wyv : Nat → Int64) (bdv : Nat → Bool) (ct : Nat) (dA : Nat) (sta : Nat) (stc : Int64) (fev : Nat → Nat) (dl : Nat) (dnv : Nat → Int64) (rov : Nat → Nat) (a : Nat) (b : Nat)  : gz_M l yX1_between cX1_between 2 (some .int) ({ frames := 0, cells := 0, slots := 0, locals := 0 } : Room) D [(cI, .int), (cJ, .long), (cZ, .boolean)] [.int (nI a), .int (nI b)] (wC xo nt es ro ad cI cJ cZ ln fz sx mo sn bw tkv opv shv ldv wyv bdv ct dA dA sta stc fev dl dnv rov) (some (.int (nI (f1_between a b)))) (wC xo nt es ro ad cI cJ cZ ln fz sx mo sn bw tkv opv shv ldv wyv bdv ct dA dA sta stc fev dl dnv rov) 0 0 := by
  refine gz_met l (by decide) (Nat.le_of_ble_eq_true rfl) [(0, .int (nI a)), (1, .int (nI b))] rfl ?_
  intro sz p e s m args below meth c C hr hk hnm
  have C : gz_C p s m args c cX1_between 2 RX1 D [(cI, .int), (cJ, .long), (cZ, .boolean)] (va_A (wC xo nt es ro ad cI cJ cZ ln fz sx mo sn bw tkv opv shv ldv wyv bdv ct dA dA sta stc fev dl dnv rov) sz) := C
  refine gz_iload_n C 0 dX1_between_0 rfl ?_
  refine gz_bipush (v := nI 21) C dX1_between_1 (by decide) ?_
  refine gz_imul (v := nI (a * 21)) C dX1_between_3 (pk_mul _ _) ?_
  refine gz_iload_n C 1 dX1_between_4 rfl ?_
  refine gz_iadd (v := nI ((a * 21) + b)) C dX1_between_5 (nI_add _ _) ?_
  exact gz_iret C hr hk (by first | rfl | (simp only [f1_between]) | (simp only [f1_between]; rfl)) rfl (Nat.le_refl _) (Nat.le_refl _) dX1_between_6

def f1_holds_lp (rov : Nat → Nat) (x : Nat) : Nat → Nat → Bool
  | 0, k => false
  | n + 1, k => if (rov k) = x then true else f1_holds_lp rov x n (k + 1)
set_option maxRecDepth 100000 in
set_option maxHeartbeats 4000000 in
theorem lX1_holds_lp {p : Program} {l : Launch} {e : Env} {R : Room} {s : State} {m : MethodId} {args : Array Value} {below : List Frame} {meth : Method} {c : Code} {cells slots mc ms : Nat} {A : Nat → Prop} {ov : Option Value} {D : va_G} (xo : Nat) (nt : Nat) (es : Nat) (ro : Nat) (ad : Nat → Nat) (cI : ClassId) (cJ : ClassId) (cZ : ClassId) (ln : Int32) (fz : Nat) (sx : Bool) (mo : Int32) (sn : Nat) (bw : Int32) (tkv : Nat → Int64) (opv : Nat → Int64) (shv : Nat → Int64) (ldv : Nat → Int32) (wyv : Nat → Int64) (bdv : Nat → Bool) (ct : Nat) (dA : Nat) (sta : Nat) (stc : Int64) (fev : Nat → Nat) (dl : Nat) (dnv : Nat → Int64) (rov : Nat → Nat) (co : Nat) (x : Nat) (hc : co ≤ 20) (hxx : x ≤ 20) (hro : ∀ k, k < co → rov k ≤ 20) (C : gz_C p s m args c cX1_holds 4 RX1 D [(cI, .int), (cJ, .long), (cZ, .boolean)] A) (hr : meth.sig.returnType = (some .boolean)) (hk : meth.locks = false) (hcm : cells ≤ mc) (hsm : slots ≤ ms) : ∀ (n : Nat) (k : Nat), (k + n = co) → some (.int (bI (f1_holds_lp rov x n k))) = ov → GZ p l e R s m args below meth c 4 D A cells slots (MQ below (gz_Q D [(cI, .int), (cJ, .long), (cZ, .boolean)] ov (wC xo nt es ro ad cI cJ cZ ln fz sx mo sn bw tkv opv shv ldv wyv bdv ct dA dA sta stc fev dl dnv rov) A) args s mc ms A) (wC xo nt es ro ad cI cJ cZ ln fz sx mo sn bw tkv opv shv ldv wyv bdv ct dA dA sta stc fev dl dnv rov) [(0, .ref ro), (1, .int (nI co)), (2, .int (nI x)), (3, .int (nI k))] [] 2 := by
  intro n
  induction n with
  | zero =>
    intro k hme  hov
    refine gz_iload_n C 3 dX1_holds_2 rfl ?_
    refine gz_iload_n C 1 dX1_holds_3 rfl ?_
    refine gz_ncmp_ge C 22 (by omega) (by omega) dX1_holds_4 (by decide) (fun h_1 => ?_) (fun h_1 => ?_)
    · skip
      refine gz_iconst (v := nI 0) C dX1_holds_22 (by decide) ?_
      refine gz_sw (v := .int (nI 0)) (w := .int (bI false)) (by rw [show nI 0 = bI false from (by first | rfl | decide | ((repeat' split) <;> rfl))]) ?_
      exact gz_zret C hr hk (bI_nar _) (by rw [← hov]; first | rfl | (simp only [f1_holds_lp, if_pos h_1])) rfl hcm hsm dX1_holds_23
    · have g_1 : ¬ (co ≤ k) := (Nat.not_le.mpr h_1)
      exfalso; omega
  | succ n ih =>
    intro k hme  hov
    refine gz_iload_n C 3 dX1_holds_2 rfl ?_
    refine gz_iload_n C 1 dX1_holds_3 rfl ?_
    refine gz_ncmp_ge C 22 (by omega) (by omega) dX1_holds_4 (by decide) (fun h_1 => ?_) (fun h_1 => ?_)
    · skip
      exfalso; omega
    · have g_1 : ¬ (co ≤ k) := (Nat.not_le.mpr h_1)
      have hq := hro k (by omega)
      refine gz_aload_n C 0 dX1_holds_7 rfl ?_
      refine gz_iload_n C 3 dX1_holds_8 rfl ?_
      refine gz_iald C 11 0 rfl rfl (by omega) (by decide) dX1_holds_9 ?_
      refine gz_iload_n C 2 dX1_holds_10 rfl ?_
      refine gz_ncmp_ne C 16 (by omega) (by omega) dX1_holds_11 (by decide) (fun h_2 => ?_) (fun h_2 => ?_)
      · have g_2 : ¬ ((rov k) = x) := h_2
        refine gz_iinc (v := nI (k + 1)) (lv2 := [(3, .int (nI (k + 1))), (0, .ref ro), (1, .int (nI co)), (2, .int (nI x))]) (k := 3) C dX1_holds_16 rfl (nI_add _ 1) (by decide) rfl ?_
        refine gz_goto C 2 dX1_holds_19 (by decide) ?_
        refine gz_lv [1, 2, 3, 0] rfl ?_
        simp only [f1_holds_lp, if_neg g_1, if_neg g_2] at hov
        exact ih (k + 1) (by omega)  hov
      · skip
        refine gz_iconst (v := nI 1) C dX1_holds_14 (by decide) ?_
        refine gz_sw (v := .int (nI 1)) (w := .int (bI true)) (by rw [show nI 1 = bI true from (by first | rfl | decide | ((repeat' split) <;> rfl))]) ?_
        exact gz_zret C hr hk (bI_nar _) (by rw [← hov]; first | rfl | (simp only [f1_holds_lp, if_neg g_1, if_pos h_2])) rfl hcm hsm dX1_holds_15

def f1_holds (rov : Nat → Nat) (co : Nat) (x : Nat) : Bool := f1_holds_lp rov x co 0
set_option maxRecDepth 100000 in
set_option maxHeartbeats 4000000 in
theorem kX1_holds (l : Launch) (D : va_G) (xo : Nat) (nt : Nat) (es : Nat) (ro : Nat) (ad : Nat → Nat) (cI : ClassId) (cJ : ClassId) (cZ : ClassId) (ln : Int32) (fz : Nat) (sx : Bool) (mo : Int32) (sn : Nat) (bw : Int32) (tkv : Nat → Int64) (opv : Nat → Int64) (shv : Nat → Int64) (ldv : Nat → Int32) (wyv : Nat → Int64) (bdv : Nat → Bool) (ct : Nat) (dA : Nat) (sta : Nat) (stc : Int64) (fev : Nat → Nat) (dl : Nat) (dnv : Nat → Int64) (rov : Nat → Nat) (co : Nat) (x : Nat) (hc : co ≤ 20) (hxx : x ≤ 20) (hro : ∀ k, k < co → rov k ≤ 20) : gz_M l yX1_holds cX1_holds 4 (some .boolean) ({ frames := 0, cells := 0, slots := 0, locals := 0 } : Room) D [(cI, .int), (cJ, .long), (cZ, .boolean)] [.ref ro, .int (nI co), .int (nI x)] (wC xo nt es ro ad cI cJ cZ ln fz sx mo sn bw tkv opv shv ldv wyv bdv ct dA dA sta stc fev dl dnv rov) (some (.int (bI (f1_holds rov co x)))) (wC xo nt es ro ad cI cJ cZ ln fz sx mo sn bw tkv opv shv ldv wyv bdv ct dA dA sta stc fev dl dnv rov) 0 0 := by
  refine gz_met l (by decide) (Nat.le_of_ble_eq_true rfl) [(0, .ref ro), (1, .int (nI co)), (2, .int (nI x))] rfl ?_
  intro sz p e s m args below meth c C hr hk hnm
  have C : gz_C p s m args c cX1_holds 4 RX1 D [(cI, .int), (cJ, .long), (cZ, .boolean)] (va_A (wC xo nt es ro ad cI cJ cZ ln fz sx mo sn bw tkv opv shv ldv wyv bdv ct dA dA sta stc fev dl dnv rov) sz) := C
  refine gz_iconst (v := nI 0) C dX1_holds_0 (by decide) ?_
  refine gz_istore_n (lv2 := [(3, .int (nI 0)), (0, .ref ro), (1, .int (nI co)), (2, .int (nI x))]) C dX1_holds_1 (by decide) rfl ?_
  refine gz_lv (lv2 := [(0, .ref ro), (1, .int (nI co)), (2, .int (nI x)), (3, .int (nI 0))]) [1, 2, 3, 0] rfl ?_
  exact lX1_holds_lp xo nt es ro ad cI cJ cZ ln fz sx mo sn bw tkv opv shv ldv wyv bdv ct dA sta stc fev dl dnv rov co x (by first | assumption | omega) (by first | assumption | omega) (by first | assumption | omega) C hr hk (Nat.le_refl _) (Nat.le_refl _) co 0 (by omega)  (by first | rfl | (simp only [f1_holds]) | (simp only [f1_holds]; rfl))

def f1_isStop (sn : Nat) (x : Int32) : Bool := (if x ≤ 0 then false else (if (nI sn) < x then false else true))
set_option maxRecDepth 100000 in
set_option maxHeartbeats 4000000 in
theorem kX1_isStop (l : Launch) (D : va_G) (xo : Nat) (nt : Nat) (es : Nat) (ro : Nat) (ad : Nat → Nat) (cI : ClassId) (cJ : ClassId) (cZ : ClassId) (ln : Int32) (fz : Nat) (sx : Bool) (mo : Int32) (sn : Nat) (bw : Int32) (tkv : Nat → Int64) (opv : Nat → Int64) (shv : Nat → Int64) (ldv : Nat → Int32) (wyv : Nat → Int64) (bdv : Nat → Bool) (ct : Nat) (dA : Nat) (sta : Nat) (stc : Int64) (fev : Nat → Nat) (dl : Nat) (dnv : Nat → Int64) (rov : Nat → Nat) (x : Int32) (hsn : sn ≤ 20) : gz_M l yX1_isStop cX1_isStop 2 (some .boolean) ({ frames := 0, cells := 0, slots := 0, locals := 0 } : Room) D [(cI, .int), (cJ, .long), (cZ, .boolean)] [.ref nt, .int x] (wC xo nt es ro ad cI cJ cZ ln fz sx mo sn bw tkv opv shv ldv wyv bdv ct dA dA sta stc fev dl dnv rov) (some (.int (bI (f1_isStop sn x)))) (wC xo nt es ro ad cI cJ cZ ln fz sx mo sn bw tkv opv shv ldv wyv bdv ct dA dA sta stc fev dl dnv rov) 0 0 := by
  refine gz_met l (by decide) (Nat.le_of_ble_eq_true rfl) [(0, .ref nt), (1, .int x)] rfl ?_
  intro sz p e s m args below meth c C hr hk hnm
  have C : gz_C p s m args c cX1_isStop 2 RX1 D [(cI, .int), (cJ, .long), (cZ, .boolean)] (va_A (wC xo nt es ro ad cI cJ cZ ln fz sx mo sn bw tkv opv shv ldv wyv bdv ct dA dA sta stc fev dl dnv rov) sz) := C
  refine gz_iload_n C 1 dX1_isStop_0 rfl ?_
  refine gz_J (ws2 := (wC xo nt es ro ad cI cJ cZ ln fz sx mo sn bw tkv opv shv ldv wyv bdv ct dA dA sta stc fev dl dnv rov)) (lv2 := [(0, .ref nt), (1, .int x)]) (st2 := [.int (nI ((if x ≤ 0 then 0 else (if (nI sn) < x then 0 else 1))))]) (pc2 := 17) ?_ (fun J_1 => ?_)
  rotate_left
  · refine gz_if_le C 16 dX1_isStop_1 (by decide) (fun h_1 => ?_) (fun h_1 => ?_)
    · skip
      refine gz_iconst (v := nI 0) C dX1_isStop_16 (by decide) ?_
      simp only [if_pos h_1] at J_1 ⊢
      exact gz_lv [0, 1] rfl J_1
    · have g_1 : ¬ (x ≤ 0) := h_1
      refine gz_iload_n C 1 dX1_isStop_4 rfl ?_
      refine gz_aload_n C 0 dX1_isStop_5 rfl ?_
      refine gz_get (ci := 2) C iwX1 1 rfl rfl 0 (by decide) wk_27 rfl rfl dX1_isStop_6 ?_
      refine gz_J (ws2 := (wC xo nt es ro ad cI cJ cZ ln fz sx mo sn bw tkv opv shv ldv wyv bdv ct dA dA sta stc fev dl dnv rov)) (lv2 := [(0, .ref nt), (1, .int x)]) (st2 := [.int (nI ((if (nI sn) < x then 0 else 1)))]) (pc2 := 17) ?_ (fun J_2 => ?_)
      rotate_left
      · refine gz_icmp_gt C 16 dX1_isStop_9 (by decide) (fun h_2 => ?_) (fun h_2 => ?_)
        · skip
          refine gz_iconst (v := nI 0) C dX1_isStop_16 (by decide) ?_
          simp only [if_pos h_2] at J_2 ⊢
          exact gz_lv [0, 1] rfl J_2
        · have g_2 : ¬ ((nI sn) < x) := h_2
          refine gz_iconst (v := nI 1) C dX1_isStop_12 (by decide) ?_
          refine gz_goto C 17 dX1_isStop_13 (by decide) ?_
          simp only [if_neg g_2] at J_2 ⊢
          exact gz_lv [0, 1] rfl J_2
      simp only [if_neg g_1] at J_1 ⊢
      exact gz_lv [0, 1] rfl J_1
  refine gz_sw (v := .int (nI ((if x ≤ 0 then 0 else (if (nI sn) < x then 0 else 1))))) (w := .int (bI ((if x ≤ 0 then false else (if (nI sn) < x then false else true))))) (by rw [show nI ((if x ≤ 0 then 0 else (if (nI sn) < x then 0 else 1))) = bI ((if x ≤ 0 then false else (if (nI sn) < x then false else true))) from (by first | rfl | decide | ((repeat' split) <;> rfl))]) ?_
  exact gz_zret C hr hk (bI_nar _) (by first | rfl | (simp only [f1_isStop]) | (simp only [f1_isStop]; rfl)) rfl (Nat.le_refl _) (Nat.le_refl _) dX1_isStop_17

def f1_isPoint (sn : Nat) (x : Int32) : Bool := (if x = 0 then true else (if (f1_isStop sn x) = true then true else false))
set_option maxRecDepth 100000 in
set_option maxHeartbeats 4000000 in
theorem kX1_isPoint (l : Launch) (D : va_G) (xo : Nat) (nt : Nat) (es : Nat) (ro : Nat) (ad : Nat → Nat) (cI : ClassId) (cJ : ClassId) (cZ : ClassId) (ln : Int32) (fz : Nat) (sx : Bool) (mo : Int32) (sn : Nat) (bw : Int32) (tkv : Nat → Int64) (opv : Nat → Int64) (shv : Nat → Int64) (ldv : Nat → Int32) (wyv : Nat → Int64) (bdv : Nat → Bool) (ct : Nat) (dA : Nat) (sta : Nat) (stc : Int64) (fev : Nat → Nat) (dl : Nat) (dnv : Nat → Int64) (rov : Nat → Nat) (x : Int32) (hsn : sn ≤ 20) : gz_M l yX1_isPoint cX1_isPoint 2 (some .boolean) ({ frames := 1, cells := 0, slots := 0, locals := 21 } : Room) D [(cI, .int), (cJ, .long), (cZ, .boolean)] [.ref nt, .int x] (wC xo nt es ro ad cI cJ cZ ln fz sx mo sn bw tkv opv shv ldv wyv bdv ct dA dA sta stc fev dl dnv rov) (some (.int (bI (f1_isPoint sn x)))) (wC xo nt es ro ad cI cJ cZ ln fz sx mo sn bw tkv opv shv ldv wyv bdv ct dA dA sta stc fev dl dnv rov) 0 0 := by
  refine gz_met l (by decide) (Nat.le_of_ble_eq_true rfl) [(0, .ref nt), (1, .int x)] rfl ?_
  intro sz p e s m args below meth c C hr hk hnm
  have C : gz_C p s m args c cX1_isPoint 2 RX1 D [(cI, .int), (cJ, .long), (cZ, .boolean)] (va_A (wC xo nt es ro ad cI cJ cZ ln fz sx mo sn bw tkv opv shv ldv wyv bdv ct dA dA sta stc fev dl dnv rov) sz) := C
  refine gz_iload_n C 1 dX1_isPoint_0 rfl ?_
  refine gz_J (ws2 := (wC xo nt es ro ad cI cJ cZ ln fz sx mo sn bw tkv opv shv ldv wyv bdv ct dA dA sta stc fev dl dnv rov)) (lv2 := [(0, .ref nt), (1, .int x)]) (st2 := [.int (nI ((if x = 0 then 1 else (if (f1_isStop sn x) = true then 1 else 0))))]) (pc2 := 17) ?_ (fun J_1 => ?_)
  rotate_left
  · refine gz_if_eq C 12 dX1_isPoint_1 (by decide) (fun h_1 => ?_) (fun h_1 => ?_)
    · skip
      refine gz_iconst (v := nI 1) C dX1_isPoint_12 (by decide) ?_
      refine gz_goto C 17 dX1_isPoint_13 (by decide) ?_
      simp only [if_pos h_1] at J_1 ⊢
      exact gz_lv [0, 1] rfl J_1
    · have g_1 : ¬ (x = 0) := h_1
      refine gz_aload_n C 0 dX1_isPoint_4 rfl ?_
      refine gz_iload_n C 1 dX1_isPoint_5 rfl ?_
      refine gz_callV (wr := []) (n := 1) (ws2 := (wC xo nt es ro ad cI cJ cZ ln fz sx mo sn bw tkv opv shv ldv wyv bdv ct dA dA sta stc fev dl dnv rov)) (st2 := [.int (bI (f1_isStop sn x))]) (cells2 := 0) (slots2 := 0) (ci := 2) C (kX1_isStop l D xo nt es ro ad cI cJ cZ ln fz sx mo sn bw tkv opv shv ldv wyv bdv ct dA sta stc fev dl dnv rov x (by first | assumption | omega)) (WB_V wk_122 wk_123 wk_124 wk_2 wk_125) (by decide +kernel) ⟨⟨rfl, rfl⟩, Nat.le_of_ble_eq_true rfl, Nat.le_of_ble_eq_true rfl⟩ [0, 1, 2, 3, 4, 5, 6, 7, 8, 9, 10, 11] [] [0, 1, 2] rfl rfl rfl (by decide) rfl 1 rfl rfl rfl rfl (Nat.le_of_ble_eq_true rfl) dX1_isPoint_6 ⟨Nat.zero_le _, Nat.zero_le _⟩ rfl rfl rfl ?_
      refine gz_J (ws2 := (wC xo nt es ro ad cI cJ cZ ln fz sx mo sn bw tkv opv shv ldv wyv bdv ct dA dA sta stc fev dl dnv rov)) (lv2 := [(0, .ref nt), (1, .int x)]) (st2 := [.int (nI ((if (f1_isStop sn x) = true then 1 else 0)))]) (pc2 := 17) ?_ (fun J_2 => ?_)
      rotate_left
      · refine gz_bif_eq C 16 dX1_isPoint_9 (by decide) (fun h_2 => ?_) (fun h_2 => ?_)
        · have g_2 : ¬ ((f1_isStop sn x) = true) := (by rw [h_2]; decide)
          refine gz_iconst (v := nI 0) C dX1_isPoint_16 (by decide) ?_
          simp only [if_neg g_2] at J_2 ⊢
          exact gz_lv [0, 1] rfl J_2
        · skip
          refine gz_iconst (v := nI 1) C dX1_isPoint_12 (by decide) ?_
          refine gz_goto C 17 dX1_isPoint_13 (by decide) ?_
          simp only [if_pos h_2] at J_2 ⊢
          exact gz_lv [0, 1] rfl J_2
      simp only [if_neg g_1] at J_1 ⊢
      exact gz_lv [0, 1] rfl J_1
  refine gz_sw (v := .int (nI ((if x = 0 then 1 else (if (f1_isStop sn x) = true then 1 else 0))))) (w := .int (bI ((if x = 0 then true else (if (f1_isStop sn x) = true then true else false))))) (by rw [show nI ((if x = 0 then 1 else (if (f1_isStop sn x) = true then 1 else 0))) = bI ((if x = 0 then true else (if (f1_isStop sn x) = true then true else false))) from (by first | rfl | decide | ((repeat' split) <;> rfl))]) ?_
  exact gz_zret C hr hk (bI_nar _) (by first | rfl | (simp only [f1_isPoint]) | (simp only [f1_isPoint]; rfl)) rfl (Nat.le_refl _) (Nat.le_refl _) dX1_isPoint_17

def f1_append (sn : Nat) : Int32 := nI (sn + 1)
def f1_append_sn (sn : Nat) : Nat := sn + 1
def f1_append_tkv (sn : Nat) (tkv : Nat → Int64) (ta : Int64) : Nat → Int64 := va_up tkv (sn + 1) ta
def f1_append_opv (sn : Nat) (opv : Nat → Int64) (tb : Int64) : Nat → Int64 := va_up opv (sn + 1) tb
def f1_append_shv (sn : Nat) (shv : Nat → Int64) (tc : Int64) : Nat → Int64 := va_up shv (sn + 1) tc
set_option maxRecDepth 100000 in
set_option maxHeartbeats 4000000 in
theorem kX1_append (l : Launch) (D : va_G) (xo : Nat) (nt : Nat) (es : Nat) (ro : Nat) (ad : Nat → Nat) (cI : ClassId) (cJ : ClassId) (cZ : ClassId) (ln : Int32) (fz : Nat) (sx : Bool) (mo : Int32) (sn : Nat) (bw : Int32) (tkv : Nat → Int64) (opv : Nat → Int64) (shv : Nat → Int64) (ldv : Nat → Int32) (wyv : Nat → Int64) (bdv : Nat → Bool) (ct : Nat) (dA : Nat) (sta : Nat) (stc : Int64) (fev : Nat → Nat) (dl : Nat) (dnv : Nat → Int64) (rov : Nat → Nat) (ta : Int64) (tb : Int64) (tc : Int64) (hsn : sn ≤ 19) : gz_M l yX1_append cX1_append 7 (some .int) ({ frames := 0, cells := 0, slots := 0, locals := 0 } : Room) D [(cI, .int), (cJ, .long), (cZ, .boolean)] [.ref nt, .long ta, .long tb, .long tc] (wC xo nt es ro ad cI cJ cZ ln fz sx mo sn bw tkv opv shv ldv wyv bdv ct dA dA sta stc fev dl dnv rov) (some (.int (f1_append sn))) (wC xo nt es ro ad cI cJ cZ ln fz sx mo (f1_append_sn sn) bw (f1_append_tkv sn tkv ta) (f1_append_opv sn opv tb) (f1_append_shv sn shv tc) ldv wyv bdv ct dA dA sta stc fev dl dnv rov) 0 0 := by
  refine gz_met l (by decide) (Nat.le_of_ble_eq_true rfl) [(0, .ref nt), (1, .long ta), (3, .long tb), (5, .long tc)] rfl ?_
  intro sz p e s m args below meth c C hr hk hnm
  have C : gz_C p s m args c cX1_append 7 RX1 D [(cI, .int), (cJ, .long), (cZ, .boolean)] (va_A (wC xo nt es ro ad cI cJ cZ ln fz sx mo sn bw tkv opv shv ldv wyv bdv ct dA dA sta stc fev dl dnv rov) sz) := C
  refine gz_aload_n C 0 dX1_append_0 rfl ?_
  refine gz_dup C dX1_append_1 rfl ?_
  refine gz_get (ci := 2) C iwX1 1 rfl rfl 0 (by decide) wk_27 rfl rfl dX1_append_2 ?_
  refine gz_iconst (v := nI 1) C dX1_append_5 (by decide) ?_
  refine gz_iadd (v := nI (sn + 1)) C dX1_append_6 (nI_add _ _) ?_
  refine gz_put (ci := 2) (ws2 := (wC xo nt es ro ad cI cJ cZ ln fz sx mo (sn + 1) bw tkv opv shv ldv wyv bdv ct dA dA sta stc fev dl dnv rov)) C iwX1 1 rfl rfl 0 (by decide) wk_27 rfl tyX1 tyX1_ok nmX1 rfl rfl rfl rfl (Nat.le_of_ble_eq_true rfl) rfl dX1_append_7 ?_
  refine gz_aload_n C 0 dX1_append_10 rfl ?_
  refine gz_get (ci := 2) C iwX1 1 rfl rfl 2 (by decide) wk_31 rfl rfl dX1_append_11 ?_
  refine gz_aload_n C 0 dX1_append_14 rfl ?_
  refine gz_get (ci := 2) C iwX1 1 rfl rfl 0 (by decide) wk_27 rfl rfl dX1_append_15 ?_
  refine gz_lload_n C 1 dX1_append_18 rfl ?_
  refine gz_last (ws2 := (wC xo nt es ro ad cI cJ cZ ln fz sx mo (sn + 1) bw (va_up tkv (sn + 1) ta) opv shv ldv wyv bdv ct dA dA sta stc fev dl dnv rov)) C 2 1 rfl rfl (by omega) (by decide) rfl dX1_append_19 ?_
  refine gz_aload_n C 0 dX1_append_20 rfl ?_
  refine gz_get (ci := 2) C iwX1 1 rfl rfl 3 (by decide) wk_32 rfl rfl dX1_append_21 ?_
  refine gz_aload_n C 0 dX1_append_24 rfl ?_
  refine gz_get (ci := 2) C iwX1 1 rfl rfl 0 (by decide) wk_27 rfl rfl dX1_append_25 ?_
  refine gz_lload_n C 2 dX1_append_28 rfl ?_
  refine gz_last (ws2 := (wC xo nt es ro ad cI cJ cZ ln fz sx mo (sn + 1) bw (va_up tkv (sn + 1) ta) (va_up opv (sn + 1) tb) shv ldv wyv bdv ct dA dA sta stc fev dl dnv rov)) C 3 1 rfl rfl (by omega) (by decide) rfl dX1_append_29 ?_
  refine gz_aload_n C 0 dX1_append_30 rfl ?_
  refine gz_get (ci := 2) C iwX1 1 rfl rfl 4 (by decide) wk_33 rfl rfl dX1_append_31 ?_
  refine gz_aload_n C 0 dX1_append_34 rfl ?_
  refine gz_get (ci := 2) C iwX1 1 rfl rfl 0 (by decide) wk_27 rfl rfl dX1_append_35 ?_
  refine gz_lload C 3 dX1_append_38 rfl ?_
  refine gz_last (ws2 := (wC xo nt es ro ad cI cJ cZ ln fz sx mo (sn + 1) bw (va_up tkv (sn + 1) ta) (va_up opv (sn + 1) tb) (va_up shv (sn + 1) tc) ldv wyv bdv ct dA dA sta stc fev dl dnv rov)) C 4 1 rfl rfl (by omega) (by decide) rfl dX1_append_40 ?_
  refine gz_aload_n C 0 dX1_append_41 rfl ?_
  refine gz_get (ci := 2) C iwX1 1 rfl rfl 0 (by decide) wk_27 rfl rfl dX1_append_42 ?_
  exact gz_iret C hr hk (by first | rfl | (simp only [f1_append, f1_append_sn, f1_append_tkv, f1_append_opv, f1_append_shv]) | (simp only [f1_append, f1_append_sn, f1_append_tkv, f1_append_opv, f1_append_shv]; rfl)) (by first | rfl | (simp only [f1_append, f1_append_sn, f1_append_tkv, f1_append_opv, f1_append_shv]) | (simp only [f1_append, f1_append_sn, f1_append_tkv, f1_append_opv, f1_append_shv]; rfl)) (Nat.le_refl _) (Nat.le_refl _) dX1_append_45

def f1_tellWay_wyv (wyv : Nat → Int64) (a : Nat) (b : Nat) (t : Int64) : Nat → Int64 := va_up wyv (a * 21 + b) t
set_option maxRecDepth 100000 in
set_option maxHeartbeats 4000000 in
theorem kX1_tellWay (l : Launch) (D : va_G) (xo : Nat) (nt : Nat) (es : Nat) (ro : Nat) (ad : Nat → Nat) (cI : ClassId) (cJ : ClassId) (cZ : ClassId) (ln : Int32) (fz : Nat) (sx : Bool) (mo : Int32) (sn : Nat) (bw : Int32) (tkv : Nat → Int64) (opv : Nat → Int64) (shv : Nat → Int64) (ldv : Nat → Int32) (wyv : Nat → Int64) (bdv : Nat → Bool) (ct : Nat) (dA : Nat) (sta : Nat) (stc : Int64) (fev : Nat → Nat) (dl : Nat) (dnv : Nat → Int64) (rov : Nat → Nat) (a : Nat) (b : Nat) (t : Int64) (ha : a ≤ 20) (hb : b ≤ 20) : gz_M l yX1_tellWay cX1_tellWay 5 none ({ frames := 1, cells := 0, slots := 0, locals := 21 } : Room) D [(cI, .int), (cJ, .long), (cZ, .boolean)] [.ref nt, .int (nI a), .int (nI b), .long t] (wC xo nt es ro ad cI cJ cZ ln fz sx mo sn bw tkv opv shv ldv wyv bdv ct dA dA sta stc fev dl dnv rov) (none) (wC xo nt es ro ad cI cJ cZ ln fz sx mo sn bw tkv opv shv ldv (f1_tellWay_wyv wyv a b t) bdv ct dA dA sta stc fev dl dnv rov) 0 0 := by
  refine gz_met l (by decide) (Nat.le_of_ble_eq_true rfl) [(0, .ref nt), (1, .int (nI a)), (2, .int (nI b)), (3, .long t)] rfl ?_
  intro sz p e s m args below meth c C hr hk hnm
  have C : gz_C p s m args c cX1_tellWay 5 RX1 D [(cI, .int), (cJ, .long), (cZ, .boolean)] (va_A (wC xo nt es ro ad cI cJ cZ ln fz sx mo sn bw tkv opv shv ldv wyv bdv ct dA dA sta stc fev dl dnv rov) sz) := C
  refine gz_aload_n C 0 dX1_tellWay_0 rfl ?_
  refine gz_get (ci := 2) C iwX1 1 rfl rfl 6 (by decide) wk_35 rfl rfl dX1_tellWay_1 ?_
  refine gz_iload_n C 1 dX1_tellWay_4 rfl ?_
  refine gz_iload_n C 2 dX1_tellWay_5 rfl ?_
  refine gz_callS (wr := []) (n := 2) (ws2 := (wC xo nt es ro ad cI cJ cZ ln fz sx mo sn bw tkv opv shv ldv wyv bdv ct dA dA sta stc fev dl dnv rov)) (st2 := [.int (nI (a * 21 + b)), .ref ((ad 6))]) (cells2 := 0) (slots2 := 0) C (kX1_between l D xo nt es ro ad cI cJ cZ ln fz sx mo sn bw tkv opv shv ldv wyv bdv ct dA sta stc fev dl dnv rov a b ) (WB_S wk_130 wk_131 wk_2 wk_132) (by decide +kernel) ⟨⟨rfl, rfl⟩, Nat.le_of_ble_eq_true rfl, Nat.le_of_ble_eq_true rfl⟩ [0, 1, 2, 3, 4, 5, 6, 7, 8, 9, 10, 11] [] [0, 1, 2] rfl rfl rfl (by decide) rfl rfl rfl (Nat.le_of_ble_eq_true rfl) dX1_tellWay_6 ⟨Nat.zero_le _, Nat.zero_le _⟩ rfl rfl rfl ?_
  refine gz_lload_n C 3 dX1_tellWay_9 rfl ?_
  refine gz_last (ws2 := (wC xo nt es ro ad cI cJ cZ ln fz sx mo sn bw tkv opv shv ldv (va_up wyv (a * 21 + b) t) bdv ct dA dA sta stc fev dl dnv rov)) C 6 1 rfl rfl (by omega) (by decide) rfl dX1_tellWay_10 ?_
  exact gz_vret C hr hk (by first | rfl | (simp only [f1_tellWay_wyv]) | (simp only [f1_tellWay_wyv]; rfl)) (by first | rfl | (simp only [f1_tellWay_wyv]) | (simp only [f1_tellWay_wyv]; rfl)) (Nat.le_refl _) (Nat.le_refl _) dX1_tellWay_11

def f1_tellLoad_ldv (ldv : Nat → Int32) (a : Nat) (y : Int32) : Nat → Int32 := va_up ldv a y
set_option maxRecDepth 100000 in
set_option maxHeartbeats 4000000 in
theorem kX1_tellLoad (l : Launch) (D : va_G) (xo : Nat) (nt : Nat) (es : Nat) (ro : Nat) (ad : Nat → Nat) (cI : ClassId) (cJ : ClassId) (cZ : ClassId) (ln : Int32) (fz : Nat) (sx : Bool) (mo : Int32) (sn : Nat) (bw : Int32) (tkv : Nat → Int64) (opv : Nat → Int64) (shv : Nat → Int64) (ldv : Nat → Int32) (wyv : Nat → Int64) (bdv : Nat → Bool) (ct : Nat) (dA : Nat) (sta : Nat) (stc : Int64) (fev : Nat → Nat) (dl : Nat) (dnv : Nat → Int64) (rov : Nat → Nat) (a : Nat) (y : Int32) (ha : a ≤ 20) : gz_M l yX1_tellLoad cX1_tellLoad 3 none ({ frames := 0, cells := 0, slots := 0, locals := 0 } : Room) D [(cI, .int), (cJ, .long), (cZ, .boolean)] [.ref nt, .int (nI a), .int y] (wC xo nt es ro ad cI cJ cZ ln fz sx mo sn bw tkv opv shv ldv wyv bdv ct dA dA sta stc fev dl dnv rov) (none) (wC xo nt es ro ad cI cJ cZ ln fz sx mo sn bw tkv opv shv (f1_tellLoad_ldv ldv a y) wyv bdv ct dA dA sta stc fev dl dnv rov) 0 0 := by
  refine gz_met l (by decide) (Nat.le_of_ble_eq_true rfl) [(0, .ref nt), (1, .int (nI a)), (2, .int y)] rfl ?_
  intro sz p e s m args below meth c C hr hk hnm
  have C : gz_C p s m args c cX1_tellLoad 3 RX1 D [(cI, .int), (cJ, .long), (cZ, .boolean)] (va_A (wC xo nt es ro ad cI cJ cZ ln fz sx mo sn bw tkv opv shv ldv wyv bdv ct dA dA sta stc fev dl dnv rov) sz) := C
  refine gz_aload_n C 0 dX1_tellLoad_0 rfl ?_
  refine gz_get (ci := 2) C iwX1 1 rfl rfl 5 (by decide) wk_34 rfl rfl dX1_tellLoad_1 ?_
  refine gz_iload_n C 1 dX1_tellLoad_4 rfl ?_
  refine gz_iload_n C 2 dX1_tellLoad_5 rfl ?_
  refine gz_iastr (ws2 := (wC xo nt es ro ad cI cJ cZ ln fz sx mo sn bw tkv opv shv (va_up ldv a y) wyv bdv ct dA dA sta stc fev dl dnv rov)) C 5 0 rfl rfl (by omega) (by decide) rfl dX1_tellLoad_6 ?_
  exact gz_vret C hr hk (by first | rfl | (simp only [f1_tellLoad_ldv]) | (simp only [f1_tellLoad_ldv]; rfl)) (by first | rfl | (simp only [f1_tellLoad_ldv]) | (simp only [f1_tellLoad_ldv]; rfl)) (Nat.le_refl _) (Nat.le_refl _) dX1_tellLoad_7

def f1_loads_lp (ldv : Nat → Int32) : Nat → Int32 → Nat → Int32 × Nat
  | 0, u, k => (u, k)
  | n + 1, u, k => f1_loads_lp ldv n (u + ((ldv k))) (k + 1)
set_option maxRecDepth 100000 in
set_option maxHeartbeats 4000000 in
theorem lX1_loads_lp {p : Program} {l : Launch} {e : Env} {R : Room} {s : State} {m : MethodId} {args : Array Value} {below : List Frame} {meth : Method} {c : Code} {cells slots : Nat} {Q : State → Prop} {A : Nat → Prop} {D : va_G} (xo : Nat) (nt : Nat) (es : Nat) (ro : Nat) (ad : Nat → Nat) (cI : ClassId) (cJ : ClassId) (cZ : ClassId) (ln : Int32) (fz : Nat) (sx : Bool) (mo : Int32) (sn : Nat) (bw : Int32) (tkv : Nat → Int64) (opv : Nat → Int64) (shv : Nat → Int64) (ldv : Nat → Int32) (wyv : Nat → Int64) (bdv : Nat → Bool) (ct : Nat) (dA : Nat) (sta : Nat) (stc : Int64) (fev : Nat → Nat) (dl : Nat) (dnv : Nat → Int64) (rov : Nat → Nat) (hsn : sn ≤ 20) (C : gz_C p s m args c cX1_loads 3 RX1 D [(cI, .int), (cJ, .long), (cZ, .boolean)] A) : ∀ (n : Nat) (u : Int32) (k : Nat), (k + n = sn + 1) → ((((f1_loads_lp ldv n u k).2) + 0 = sn + 1) → GZ p l e R s m args below meth c 3 D A cells slots Q (wC xo nt es ro ad cI cJ cZ ln fz sx mo sn bw tkv opv shv ldv wyv bdv ct dA dA sta stc fev dl dnv rov) [(0, .ref nt), (1, .int ((f1_loads_lp ldv n u k).1)), (2, .int (nI ((f1_loads_lp ldv n u k).2)))] [] 27) → GZ p l e R s m args below meth c 3 D A cells slots Q (wC xo nt es ro ad cI cJ cZ ln fz sx mo sn bw tkv opv shv ldv wyv bdv ct dA dA sta stc fev dl dnv rov) [(0, .ref nt), (1, .int u), (2, .int (nI k))] [] 4 := by
  intro n
  induction n with
  | zero =>
    intro u k hme  hx
    refine gz_iload_n C 2 dX1_loads_4 rfl ?_
    refine gz_aload_n C 0 dX1_loads_5 rfl ?_
    refine gz_get (ci := 2) C iwX1 1 rfl rfl 0 (by decide) wk_27 rfl rfl dX1_loads_6 ?_
    refine gz_ncmp_gt C 27 (by omega) (by omega) dX1_loads_9 (by decide) (fun h_1 => ?_) (fun h_1 => ?_)
    · skip
      exact gz_lv [0, 1, 2] rfl (hx hme )
    · have g_1 : ¬ (sn < k) := (Nat.not_lt.mpr h_1)
      exfalso; omega
  | succ n ih =>
    intro u k hme  hx
    refine gz_iload_n C 2 dX1_loads_4 rfl ?_
    refine gz_aload_n C 0 dX1_loads_5 rfl ?_
    refine gz_get (ci := 2) C iwX1 1 rfl rfl 0 (by decide) wk_27 rfl rfl dX1_loads_6 ?_
    refine gz_ncmp_gt C 27 (by omega) (by omega) dX1_loads_9 (by decide) (fun h_1 => ?_) (fun h_1 => ?_)
    · skip
      exfalso; omega
    · have g_1 : ¬ (sn < k) := (Nat.not_lt.mpr h_1)
      refine gz_iload_n C 1 dX1_loads_12 rfl ?_
      refine gz_aload_n C 0 dX1_loads_13 rfl ?_
      refine gz_get (ci := 2) C iwX1 1 rfl rfl 5 (by decide) wk_34 rfl rfl dX1_loads_14 ?_
      refine gz_iload_n C 2 dX1_loads_17 rfl ?_
      refine gz_ialdr C 5 0 rfl rfl (by omega) (by decide) dX1_loads_18 ?_
      refine gz_iadd (v := (u + ((ldv k)))) C dX1_loads_19 rfl ?_
      refine gz_istore_n (lv2 := [(1, .int (u + ((ldv k)))), (0, .ref nt), (2, .int (nI k))]) C dX1_loads_20 (by decide) rfl ?_
      refine gz_iinc (v := nI (k + 1)) (lv2 := [(2, .int (nI (k + 1))), (1, .int (u + ((ldv k)))), (0, .ref nt)]) (k := 2) C dX1_loads_21 rfl (nI_add _ 1) (by decide) rfl ?_
      refine gz_goto C 4 dX1_loads_24 (by decide) ?_
      refine gz_lv [2, 1, 0] rfl ?_
      simp only [f1_loads_lp, if_neg g_1] at hx
      exact ih (u + ((ldv k))) (k + 1) (by omega)  hx

def f1_loads (sn : Nat) (ldv : Nat → Int32) : Int32 := (f1_loads_lp ldv sn (nI 0) 1).1
set_option maxRecDepth 100000 in
set_option maxHeartbeats 4000000 in
theorem kX1_loads (l : Launch) (D : va_G) (xo : Nat) (nt : Nat) (es : Nat) (ro : Nat) (ad : Nat → Nat) (cI : ClassId) (cJ : ClassId) (cZ : ClassId) (ln : Int32) (fz : Nat) (sx : Bool) (mo : Int32) (sn : Nat) (bw : Int32) (tkv : Nat → Int64) (opv : Nat → Int64) (shv : Nat → Int64) (ldv : Nat → Int32) (wyv : Nat → Int64) (bdv : Nat → Bool) (ct : Nat) (dA : Nat) (sta : Nat) (stc : Int64) (fev : Nat → Nat) (dl : Nat) (dnv : Nat → Int64) (rov : Nat → Nat) (hsn : sn ≤ 20) : gz_M l yX1_loads cX1_loads 3 (some .int) ({ frames := 0, cells := 0, slots := 0, locals := 0 } : Room) D [(cI, .int), (cJ, .long), (cZ, .boolean)] [.ref nt] (wC xo nt es ro ad cI cJ cZ ln fz sx mo sn bw tkv opv shv ldv wyv bdv ct dA dA sta stc fev dl dnv rov) (some (.int (f1_loads sn ldv))) (wC xo nt es ro ad cI cJ cZ ln fz sx mo sn bw tkv opv shv ldv wyv bdv ct dA dA sta stc fev dl dnv rov) 0 0 := by
  refine gz_met l (by decide) (Nat.le_of_ble_eq_true rfl) [(0, .ref nt)] rfl ?_
  intro sz p e s m args below meth c C hr hk hnm
  have C : gz_C p s m args c cX1_loads 3 RX1 D [(cI, .int), (cJ, .long), (cZ, .boolean)] (va_A (wC xo nt es ro ad cI cJ cZ ln fz sx mo sn bw tkv opv shv ldv wyv bdv ct dA dA sta stc fev dl dnv rov) sz) := C
  refine gz_iconst (v := nI 0) C dX1_loads_0 (by decide) ?_
  refine gz_istore_n (lv2 := [(1, .int (nI 0)), (0, .ref nt)]) C dX1_loads_1 (by decide) rfl ?_
  refine gz_iconst (v := nI 1) C dX1_loads_2 (by decide) ?_
  refine gz_istore_n (lv2 := [(2, .int (nI 1)), (1, .int (nI 0)), (0, .ref nt)]) C dX1_loads_3 (by decide) rfl ?_
  refine gz_lv (lv2 := [(0, .ref nt), (1, .int (nI 0)), (2, .int (nI 1))]) [2, 1, 0] rfl ?_
  refine lX1_loads_lp xo nt es ro ad cI cJ cZ ln fz sx mo sn bw tkv opv shv ldv wyv bdv ct dA sta stc fev dl dnv rov (by first | assumption | omega) C sn (nI 0) 1 (by omega)  ?_
  intro zme_lp
  refine gz_iload_n C 1 dX1_loads_27 rfl ?_
  exact gz_iret C hr hk (by first | rfl | (simp only [f1_loads]) | (simp only [f1_loads]; rfl)) rfl (Nat.le_refl _) (Nat.le_refl _) dX1_loads_28

def f1_bar (bw : Int32) (bdv : Nat → Bool) (a : Nat) (b : Nat) (sh : Bool) : Int32 := (if (bI (bdv (a * 21 + b))) = (bI sh) then bw else bw + (((if sh = true then nI 1 else (-1)))))
def f1_bar_bw (bw : Int32) (bdv : Nat → Bool) (a : Nat) (b : Nat) (sh : Bool) : Int32 := (if (bI (bdv (a * 21 + b))) = (bI sh) then bw else bw + (((if sh = true then nI 1 else (-1)))))
def f1_bar_bdv (bdv : Nat → Bool) (a : Nat) (b : Nat) (sh : Bool) : Nat → Bool := (if (bI (bdv (a * 21 + b))) = (bI sh) then bdv else va_up bdv (a * 21 + b) sh)
set_option maxRecDepth 100000 in
set_option maxHeartbeats 4000000 in
theorem kX1_bar (l : Launch) (D : va_G) (xo : Nat) (nt : Nat) (es : Nat) (ro : Nat) (ad : Nat → Nat) (cI : ClassId) (cJ : ClassId) (cZ : ClassId) (ln : Int32) (fz : Nat) (sx : Bool) (mo : Int32) (sn : Nat) (bw : Int32) (tkv : Nat → Int64) (opv : Nat → Int64) (shv : Nat → Int64) (ldv : Nat → Int32) (wyv : Nat → Int64) (bdv : Nat → Bool) (ct : Nat) (dA : Nat) (sta : Nat) (stc : Int64) (fev : Nat → Nat) (dl : Nat) (dnv : Nat → Int64) (rov : Nat → Nat) (a : Nat) (b : Nat) (sh : Bool) (ha : a ≤ 20) (hb : b ≤ 20) : gz_M l yX1_bar cX1_bar 5 (some .int) ({ frames := 1, cells := 0, slots := 0, locals := 21 } : Room) D [(cI, .int), (cJ, .long), (cZ, .boolean)] [.ref nt, .int (nI a), .int (nI b), .int (bI sh)] (wC xo nt es ro ad cI cJ cZ ln fz sx mo sn bw tkv opv shv ldv wyv bdv ct dA dA sta stc fev dl dnv rov) (some (.int (f1_bar bw bdv a b sh))) (wC xo nt es ro ad cI cJ cZ ln fz sx mo sn (f1_bar_bw bw bdv a b sh) tkv opv shv ldv wyv (f1_bar_bdv bdv a b sh) ct dA dA sta stc fev dl dnv rov) 0 0 := by
  refine gz_met l (by decide) (Nat.le_of_ble_eq_true rfl) [(0, .ref nt), (1, .int (nI a)), (2, .int (nI b)), (3, .int (bI sh))] rfl ?_
  intro sz p e s m args below meth c C hr hk hnm
  have C : gz_C p s m args c cX1_bar 5 RX1 D [(cI, .int), (cJ, .long), (cZ, .boolean)] (va_A (wC xo nt es ro ad cI cJ cZ ln fz sx mo sn bw tkv opv shv ldv wyv bdv ct dA dA sta stc fev dl dnv rov) sz) := C
  refine gz_iload_n C 1 dX1_bar_0 rfl ?_
  refine gz_iload_n C 2 dX1_bar_1 rfl ?_
  refine gz_callS (wr := []) (n := 2) (ws2 := (wC xo nt es ro ad cI cJ cZ ln fz sx mo sn bw tkv opv shv ldv wyv bdv ct dA dA sta stc fev dl dnv rov)) (st2 := [.int (nI (a * 21 + b))]) (cells2 := 0) (slots2 := 0) C (kX1_between l D xo nt es ro ad cI cJ cZ ln fz sx mo sn bw tkv opv shv ldv wyv bdv ct dA sta stc fev dl dnv rov a b ) (WB_S wk_130 wk_131 wk_2 wk_132) (by decide +kernel) ⟨⟨rfl, rfl⟩, Nat.le_of_ble_eq_true rfl, Nat.le_of_ble_eq_true rfl⟩ [0, 1, 2, 3, 4, 5, 6, 7, 8, 9, 10, 11] [] [0, 1, 2] rfl rfl rfl (by decide) rfl rfl rfl (Nat.le_of_ble_eq_true rfl) dX1_bar_2 ⟨Nat.zero_le _, Nat.zero_le _⟩ rfl rfl rfl ?_
  refine gz_istore (lv2 := [(4, .int (nI (a * 21 + b))), (0, .ref nt), (1, .int (nI a)), (2, .int (nI b)), (3, .int (bI sh))]) C dX1_bar_5 (by decide) rfl ?_
  refine gz_aload_n C 1 dX1_bar_7 rfl ?_
  refine gz_get (ci := 2) C iwX1 1 rfl rfl 7 (by decide) wk_36 rfl rfl dX1_bar_8 ?_
  refine gz_iload C 0 dX1_bar_11 rfl ?_
  refine gz_zald C 7 2 rfl rfl (by omega) (by decide) dX1_bar_13 ?_
  refine gz_iload_n C 4 dX1_bar_14 rfl ?_
  refine gz_J (ws2 := (wC xo nt es ro ad cI cJ cZ ln fz sx mo sn ((if (bI (bdv (a * 21 + b))) = (bI sh) then bw else bw + (((if sh = true then nI 1 else (-1)))))) tkv opv shv ldv wyv ((if (bI (bdv (a * 21 + b))) = (bI sh) then bdv else va_up bdv (a * 21 + b) sh)) ct dA dA sta stc fev dl dnv rov)) (lv2 := [(4, .int (nI (a * 21 + b))), (0, .ref nt), (1, .int (nI a)), (2, .int (nI b)), (3, .int (bI sh))]) (st2 := []) (pc2 := 44) ?_ (fun J_1 => ?_)
  rotate_left
  · refine gz_icmp_eq C 44 dX1_bar_15 (by decide) (fun h_1 => ?_) (fun h_1 => ?_)
    · skip
      simp only [if_pos h_1] at J_1 ⊢
      exact gz_lv [0, 1, 2, 3, 4] rfl J_1
    · have g_1 : ¬ ((bI (bdv (a * 21 + b))) = (bI sh)) := h_1
      refine gz_aload_n C 1 dX1_bar_18 rfl ?_
      refine gz_get (ci := 2) C iwX1 1 rfl rfl 7 (by decide) wk_36 rfl rfl dX1_bar_19 ?_
      refine gz_iload C 0 dX1_bar_22 rfl ?_
      refine gz_iload_n C 4 dX1_bar_24 rfl ?_
      refine gz_zast (ws2 := (wC xo nt es ro ad cI cJ cZ ln fz sx mo sn bw tkv opv shv ldv wyv (va_up bdv (a * 21 + b) sh) ct dA dA sta stc fev dl dnv rov)) C 7 2 rfl rfl (by omega) (by decide) rfl dX1_bar_25 ?_
      refine gz_aload_n C 1 dX1_bar_26 rfl ?_
      refine gz_dup C dX1_bar_27 rfl ?_
      refine gz_get (ci := 2) C iwX1 1 rfl rfl 1 (by decide) wk_30 rfl rfl dX1_bar_28 ?_
      refine gz_iload_n C 4 dX1_bar_31 rfl ?_
      refine gz_J (ws2 := (wC xo nt es ro ad cI cJ cZ ln fz sx mo sn bw tkv opv shv ldv wyv (va_up bdv (a * 21 + b) sh) ct dA dA sta stc fev dl dnv rov)) (lv2 := [(4, .int (nI (a * 21 + b))), (0, .ref nt), (1, .int (nI a)), (2, .int (nI b)), (3, .int (bI sh))]) (st2 := [.int ((if sh = true then nI 1 else (-1))), .int bw, .ref nt]) (pc2 := 40) ?_ (fun J_2 => ?_)
      rotate_left
      · refine gz_bif_eq C 39 dX1_bar_32 (by decide) (fun h_2 => ?_) (fun h_2 => ?_)
        · have g_2 : ¬ (sh = true) := (by rw [h_2]; decide)
          refine gz_iconst (v := ((-1))) C dX1_bar_39 (by decide) ?_
          simp only [if_neg g_2] at J_2 ⊢
          exact gz_lv [0, 1, 2, 3, 4] rfl J_2
        · skip
          refine gz_iconst (v := nI 1) C dX1_bar_35 (by decide) ?_
          refine gz_goto C 40 dX1_bar_36 (by decide) ?_
          simp only [if_pos h_2] at J_2 ⊢
          exact gz_lv [0, 1, 2, 3, 4] rfl J_2
      refine gz_iadd (v := (bw + (((if sh = true then nI 1 else (-1)))))) C dX1_bar_40 rfl ?_
      refine gz_put (ci := 2) (ws2 := (wC xo nt es ro ad cI cJ cZ ln fz sx mo sn (bw + (((if sh = true then nI 1 else (-1))))) tkv opv shv ldv wyv (va_up bdv (a * 21 + b) sh) ct dA dA sta stc fev dl dnv rov)) C iwX1 1 rfl rfl 1 (by decide) wk_30 rfl tyX1 tyX1_ok nmX1 rfl rfl rfl rfl (Nat.le_of_ble_eq_true rfl) rfl dX1_bar_41 ?_
      simp only [if_neg g_1] at J_1 ⊢
      exact gz_lv [0, 1, 2, 3, 4] rfl J_1
  refine gz_aload_n C 1 dX1_bar_44 rfl ?_
  refine gz_get (ci := 2) C iwX1 1 rfl rfl 1 (by decide) wk_30 rfl rfl dX1_bar_45 ?_
  exact gz_iret C hr hk (by first | rfl | (simp only [f1_bar, f1_bar_bw, f1_bar_bdv]) | (simp only [f1_bar, f1_bar_bw, f1_bar_bdv]; rfl)) (by first | rfl | (simp only [f1_bar, f1_bar_bw, f1_bar_bdv]) | (simp only [f1_bar, f1_bar_bw, f1_bar_bdv]; rfl)) (Nat.le_refl _) (Nat.le_refl _) dX1_bar_48

def f1_doneAt (tkv : Nat → Int64) (opv : Nat → Int64) (a : Nat) (t : Int64) : Int64 := ((if opv a < t then t else opv a)) + (tkv a)
set_option maxRecDepth 100000 in
set_option maxHeartbeats 4000000 in
theorem kX1_doneAt (l : Launch) (D : va_G) (xo : Nat) (nt : Nat) (es : Nat) (ro : Nat) (ad : Nat → Nat) (cI : ClassId) (cJ : ClassId) (cZ : ClassId) (ln : Int32) (fz : Nat) (sx : Bool) (mo : Int32) (sn : Nat) (bw : Int32) (tkv : Nat → Int64) (opv : Nat → Int64) (shv : Nat → Int64) (ldv : Nat → Int32) (wyv : Nat → Int64) (bdv : Nat → Bool) (ct : Nat) (dA : Nat) (sta : Nat) (stc : Int64) (fev : Nat → Nat) (dl : Nat) (dnv : Nat → Int64) (rov : Nat → Nat) (a : Nat) (t : Int64) (ha : a ≤ 20) : gz_M l yX1_doneAt cX1_doneAt 4 (some .long) ({ frames := 1, cells := 0, slots := 0, locals := 23 } : Room) D [(cI, .int), (cJ, .long), (cZ, .boolean)] [.ref nt, .int (nI a), .long t] (wC xo nt es ro ad cI cJ cZ ln fz sx mo sn bw tkv opv shv ldv wyv bdv ct dA dA sta stc fev dl dnv rov) (some (.long (f1_doneAt tkv opv a t))) (wC xo nt es ro ad cI cJ cZ ln fz sx mo sn bw tkv opv shv ldv wyv bdv ct dA dA sta stc fev dl dnv rov) 0 0 := by
  refine gz_met l (by decide) (Nat.le_of_ble_eq_true rfl) [(0, .ref nt), (1, .int (nI a)), (2, .long t)] rfl ?_
  intro sz p e s m args below meth c C hr hk hnm
  have C : gz_C p s m args c cX1_doneAt 4 RX1 D [(cI, .int), (cJ, .long), (cZ, .boolean)] (va_A (wC xo nt es ro ad cI cJ cZ ln fz sx mo sn bw tkv opv shv ldv wyv bdv ct dA dA sta stc fev dl dnv rov) sz) := C
  refine gz_lload_n C 2 dX1_doneAt_0 rfl ?_
  refine gz_aload_n C 0 dX1_doneAt_1 rfl ?_
  refine gz_get (ci := 2) C iwX1 1 rfl rfl 3 (by decide) wk_32 rfl rfl dX1_doneAt_2 ?_
  refine gz_iload_n C 1 dX1_doneAt_5 rfl ?_
  refine gz_lald C 3 1 rfl rfl (by omega) (by decide) dX1_doneAt_6 ?_
  refine gz_mmax_long (v := (if opv a < t then t else opv a)) C wk_172 wk_173 wk_5 wk_174 (by decide) (by decide) (Nat.zero_le _) (Nat.zero_le _) dX1_doneAt_7 rfl ?_
  refine gz_aload_n C 0 dX1_doneAt_10 rfl ?_
  refine gz_get (ci := 2) C iwX1 1 rfl rfl 2 (by decide) wk_31 rfl rfl dX1_doneAt_11 ?_
  refine gz_iload_n C 1 dX1_doneAt_14 rfl ?_
  refine gz_lald C 2 1 rfl rfl (by omega) (by decide) dX1_doneAt_15 ?_
  refine gz_ladd (v := ((if opv a < t then t else opv a)) + (tkv a)) C dX1_doneAt_16 rfl ?_
  exact gz_lret C hr hk (by first | rfl | (simp only [f1_doneAt]) | (simp only [f1_doneAt]; rfl)) rfl (Nat.le_refl _) (Nat.le_refl _) dX1_doneAt_17

def f1_goodLeg (tkv : Nat → Int64) (opv : Nat → Int64) (shv : Nat → Int64) (wyv : Nat → Int64) (bdv : Nat → Bool) (a : Nat) (t : Int64) (b : Nat) : Int64 := (if t = 1000000000000000 then 1000000000000000 else (if (bdv (a * 21 + b)) = true then 1000000000000000 else (if (t + (wyv (a * 21 + b))) ≤ (shv b) then f1_doneAt tkv opv b (t + (wyv (a * 21 + b))) else 1000000000000000)))
set_option maxRecDepth 100000 in
set_option maxHeartbeats 4000000 in
theorem kX1_goodLeg (l : Launch) (D : va_G) (xo : Nat) (nt : Nat) (es : Nat) (ro : Nat) (ad : Nat → Nat) (cI : ClassId) (cJ : ClassId) (cZ : ClassId) (ln : Int32) (fz : Nat) (sx : Bool) (mo : Int32) (sn : Nat) (bw : Int32) (tkv : Nat → Int64) (opv : Nat → Int64) (shv : Nat → Int64) (ldv : Nat → Int32) (wyv : Nat → Int64) (bdv : Nat → Bool) (ct : Nat) (dA : Nat) (sta : Nat) (stc : Int64) (fev : Nat → Nat) (dl : Nat) (dnv : Nat → Int64) (rov : Nat → Nat) (a : Nat) (t : Int64) (b : Nat) (ha : a ≤ 20) (hb : b ≤ 20) : gz_M l yX1_goodLeg cX1_goodLeg 8 (some .long) ({ frames := 2, cells := 0, slots := 0, locals := 46 } : Room) D [(cI, .int), (cJ, .long), (cZ, .boolean)] [.ref nt, .int (nI a), .long t, .int (nI b)] (wC xo nt es ro ad cI cJ cZ ln fz sx mo sn bw tkv opv shv ldv wyv bdv ct dA dA sta stc fev dl dnv rov) (some (.long (f1_goodLeg tkv opv shv wyv bdv a t b))) (wC xo nt es ro ad cI cJ cZ ln fz sx mo sn bw tkv opv shv ldv wyv bdv ct dA dA sta stc fev dl dnv rov) 0 0 := by
  refine gz_met l (by decide) (Nat.le_of_ble_eq_true rfl) [(0, .ref nt), (1, .int (nI a)), (2, .long t), (4, .int (nI b))] rfl ?_
  intro sz p e s m args below meth c C hr hk hnm
  have C : gz_C p s m args c cX1_goodLeg 8 RX1 D [(cI, .int), (cJ, .long), (cZ, .boolean)] (va_A (wC xo nt es ro ad cI cJ cZ ln fz sx mo sn bw tkv opv shv ldv wyv bdv ct dA dA sta stc fev dl dnv rov) sz) := C
  refine gz_iload_n C 1 dX1_goodLeg_0 rfl ?_
  refine gz_iload C 3 dX1_goodLeg_1 rfl ?_
  refine gz_callS (wr := []) (n := 2) (ws2 := (wC xo nt es ro ad cI cJ cZ ln fz sx mo sn bw tkv opv shv ldv wyv bdv ct dA dA sta stc fev dl dnv rov)) (st2 := [.int (nI (a * 21 + b))]) (cells2 := 0) (slots2 := 0) C (kX1_between l D xo nt es ro ad cI cJ cZ ln fz sx mo sn bw tkv opv shv ldv wyv bdv ct dA sta stc fev dl dnv rov a b ) (WB_S wk_130 wk_131 wk_2 wk_132) (by decide +kernel) ⟨⟨rfl, rfl⟩, Nat.le_of_ble_eq_true rfl, Nat.le_of_ble_eq_true rfl⟩ [0, 1, 2, 3, 4, 5, 6, 7, 8, 9, 10, 11] [] [0, 1, 2] rfl rfl rfl (by decide) rfl rfl rfl (Nat.le_of_ble_eq_true rfl) dX1_goodLeg_3 ⟨Nat.zero_le _, Nat.zero_le _⟩ rfl rfl rfl ?_
  refine gz_istore (lv2 := [(5, .int (nI (a * 21 + b))), (0, .ref nt), (1, .int (nI a)), (2, .long t), (4, .int (nI b))]) C dX1_goodLeg_6 (by decide) rfl ?_
  refine gz_lload_n C 3 dX1_goodLeg_8 rfl ?_
  refine gz_ldc2 (v := 1000000000000000) C wk_26 dX1_goodLeg_9 ?_
  refine gz_lcmp_eq C 26 dX1_goodLeg_12 dX1_goodLeg_13 (by decide) (fun h_1 => ?_) (fun h_1 => ?_)
  · skip
    refine gz_ldc2 (v := 1000000000000000) C wk_26 dX1_goodLeg_26 ?_
    exact gz_lret C hr hk (by first | rfl | (simp only [f1_goodLeg, if_pos h_1]) | (simp only [f1_goodLeg, if_pos h_1]; rfl)) rfl (Nat.le_refl _) (Nat.le_refl _) dX1_goodLeg_29
  · have g_1 : ¬ (t = 1000000000000000) := h_1
    refine gz_aload_n C 1 dX1_goodLeg_16 rfl ?_
    refine gz_get (ci := 2) C iwX1 1 rfl rfl 7 (by decide) wk_36 rfl rfl dX1_goodLeg_17 ?_
    refine gz_iload C 0 dX1_goodLeg_20 rfl ?_
    refine gz_zald C 7 2 rfl rfl (by omega) (by decide) dX1_goodLeg_22 ?_
    refine gz_bif_eq C 30 dX1_goodLeg_23 (by decide) (fun h_2 => ?_) (fun h_2 => ?_)
    · have g_2 : ¬ ((bdv (a * 21 + b)) = true) := (by rw [h_2]; decide)
      refine gz_lload_n C 3 dX1_goodLeg_30 rfl ?_
      refine gz_aload_n C 1 dX1_goodLeg_31 rfl ?_
      refine gz_get (ci := 2) C iwX1 1 rfl rfl 6 (by decide) wk_35 rfl rfl dX1_goodLeg_32 ?_
      refine gz_iload C 0 dX1_goodLeg_35 rfl ?_
      refine gz_lald C 6 1 rfl rfl (by omega) (by decide) dX1_goodLeg_37 ?_
      refine gz_ladd (v := t + (wyv (a * 21 + b))) C dX1_goodLeg_38 rfl ?_
      refine gz_lstore (lv2 := [(6, .long (t + (wyv (a * 21 + b)))), (5, .int (nI (a * 21 + b))), (0, .ref nt), (1, .int (nI a)), (2, .long t), (4, .int (nI b))]) C dX1_goodLeg_39 (by decide) rfl ?_
      refine gz_lload C 0 dX1_goodLeg_41 rfl ?_
      refine gz_aload_n C 2 dX1_goodLeg_43 rfl ?_
      refine gz_get (ci := 2) C iwX1 1 rfl rfl 4 (by decide) wk_33 rfl rfl dX1_goodLeg_44 ?_
      refine gz_iload C 5 dX1_goodLeg_47 rfl ?_
      refine gz_lald C 4 1 rfl rfl (by omega) (by decide) dX1_goodLeg_49 ?_
      refine gz_J (ws2 := (wC xo nt es ro ad cI cJ cZ ln fz sx mo sn bw tkv opv shv ldv wyv bdv ct dA dA sta stc fev dl dnv rov)) (lv2 := [(6, .long (t + (wyv (a * 21 + b)))), (5, .int (nI (a * 21 + b))), (0, .ref nt), (1, .int (nI a)), (2, .long t), (4, .int (nI b))]) (st2 := [.long ((if (t + (wyv (a * 21 + b))) ≤ (shv b) then f1_doneAt tkv opv b (t + (wyv (a * 21 + b))) else 1000000000000000))]) (pc2 := 68) ?_ (fun J_3 => ?_)
      rotate_left
      · refine gz_lcmp_le C 60 dX1_goodLeg_50 dX1_goodLeg_51 (by decide) (fun h_3 => ?_) (fun h_3 => ?_)
        · skip
          refine gz_aload_n C 2 dX1_goodLeg_60 rfl ?_
          refine gz_iload C 5 dX1_goodLeg_61 rfl ?_
          refine gz_lload C 0 dX1_goodLeg_63 rfl ?_
          refine gz_callV (wr := []) (n := 2) (ws2 := (wC xo nt es ro ad cI cJ cZ ln fz sx mo sn bw tkv opv shv ldv wyv bdv ct dA dA sta stc fev dl dnv rov)) (st2 := [.long (f1_doneAt tkv opv b (t + (wyv (a * 21 + b))))]) (cells2 := 0) (slots2 := 0) (ci := 2) C (kX1_doneAt l D xo nt es ro ad cI cJ cZ ln fz sx mo sn bw tkv opv shv ldv wyv bdv ct dA sta stc fev dl dnv rov b (t + (wyv (a * 21 + b))) (by first | assumption | omega)) (WB_V wk_168 wk_169 wk_170 wk_2 wk_171) (by decide +kernel) ⟨⟨rfl, rfl⟩, Nat.le_of_ble_eq_true rfl, Nat.le_of_ble_eq_true rfl⟩ [0, 1, 2, 3, 4, 5, 6, 7, 8, 9, 10, 11] [] [0, 1, 2] rfl rfl rfl (by decide) rfl 1 rfl rfl rfl rfl (Nat.le_of_ble_eq_true rfl) dX1_goodLeg_65 ⟨Nat.zero_le _, Nat.zero_le _⟩ rfl rfl rfl ?_
          simp only [if_pos h_3] at J_3 ⊢
          exact gz_lv [0, 1, 2, 3, 4, 5] rfl J_3
        · have g_3 : ¬ ((t + (wyv (a * 21 + b))) ≤ (shv b)) := h_3
          refine gz_ldc2 (v := 1000000000000000) C wk_26 dX1_goodLeg_54 ?_
          refine gz_goto C 68 dX1_goodLeg_57 (by decide) ?_
          simp only [if_neg g_3] at J_3 ⊢
          exact gz_lv [0, 1, 2, 3, 4, 5] rfl J_3
      exact gz_lret C hr hk (by first | rfl | (simp only [f1_goodLeg, if_neg g_1, if_neg g_2]) | (simp only [f1_goodLeg, if_neg g_1, if_neg g_2]; rfl)) rfl (Nat.le_refl _) (Nat.le_refl _) dX1_goodLeg_68
    · skip
      refine gz_ldc2 (v := 1000000000000000) C wk_26 dX1_goodLeg_26 ?_
      exact gz_lret C hr hk (by first | rfl | (simp only [f1_goodLeg, if_neg g_1, if_pos h_2]) | (simp only [f1_goodLeg, if_neg g_1, if_pos h_2]; rfl)) rfl (Nat.le_refl _) (Nat.le_refl _) dX1_goodLeg_29

