def wC (xo : Nat) (nt : Nat) (es : Nat) (ro : Nat) (ad : Nat → Nat) (cI : ClassId) (cJ : ClassId) (cZ : ClassId) (ln : Int32) (fz : Nat) (sx : Bool) (mo : Int32) (sn : Nat) (bw : Int32) (tkv : Nat → Int64) (opv : Nat → Int64) (shv : Nat → Int64) (ldv : Nat → Int32) (wyv : Nat → Int64) (bdv : Nat → Bool) (ct : Nat) (dF : Nat) (dA : Nat) (sta : Nat) (stc : Int64) (fev : Nat → Nat) (dl : Nat) (dnv : Nat → Int64) (rov : Nat → Nat) : va_W := [(xo, .inr (3, [.ref nt, .ref es, .ref ro, .int ln, .int (nI fz), .int (bI sx), .int mo])), (nt, .inr (2, [.int (nI sn), .int bw, .ref ((ad 2)), .ref ((ad 3)), .ref ((ad 4)), .ref ((ad 5)), .ref ((ad 6)), .ref ((ad 7))])), (ad 2, .inl (cJ, 21, .inr (.inl tkv))), (ad 3, .inl (cJ, 21, .inr (.inl opv))), (ad 4, .inl (cJ, 21, .inr (.inl shv))), (ad 5, .inl (cI, 21, .inl ldv)), (ad 6, .inl (cJ, 441, .inr (.inl wyv))), (ad 7, .inl (cZ, 441, .inl (bF bdv))), (es, .inr (1, [.ref ((ad 9)), .int (nI ct), .ref dF, .int (nI sta), .long stc])), (ad 9, .inl (cI, 11, .inl (nF fev))), (dA, .inl (cJ, dl, .inr (.inl dnv))), (ro, .inl (cI, 20, .inl (nF rov)))]

def f1_between (a : Nat) (b : Nat) : Nat := (a * 21) + b
set_option maxRecDepth 100000 in
set_option maxHeartbeats 4000000 in
theorem kX1_between (l : Launch) (D : va_G) (xo : Nat) (nt : Nat) (es : Nat) (ro : Nat) (ad : Nat → Nat) (cI : ClassId) (cJ : ClassId) (cZ : ClassId) (ln : Int32) (fz : Nat) (sx : Bool) (mo : Int32) (sn : Nat) (bw : Int32) (tkv : Nat → Int64) (opv : Nat → Int64) (shv : Nat → Int64) (ldv : Nat → Int32) (wyv : Nat → Int64) (bdv : Nat → Bool) (ct : Nat) (dA : Nat) (sta : Nat) (stc : Int64) (fev : Nat → Nat) (dl : Nat) (dnv : Nat → Int64) (rov : Nat → Nat) (a : Nat) (b : Nat)  : gz_M l yX1_between cX1_between 2 (some .int) ({ frames := 0, cells := 0, slots := 0, locals := 0 } : Room) D [(cI, .int), (cJ, .long), (cZ, .boolean)] [.int (nI a), .int (nI b)] (wC xo nt es ro ad cI cJ cZ ln fz sx mo sn bw tkv opv shv ldv wyv bdv ct dA dA sta stc fev dl dnv rov) (some (.int (nI (f1_between a b)))) (wC xo nt es ro ad cI cJ cZ ln fz sx mo sn bw tkv opv shv ldv wyv bdv ct dA dA sta stc fev dl dnv rov) 0 0 := by
  refine gz_met l (by decide) (Nat.le_of_ble_eq_true rfl) [(0, .int (nI a)), (1, .int (nI b))] rfl ?_
  intro sz p e s m args below meth c C hr hk hnm
  have C : gz_C p s m args c cX1_between 2 RX1 D [(cI, .int), (cJ, .long), (cZ, .boolean)] (va_A (wC xo nt es ro ad cI cJ cZ ln fz sx mo sn bw tkv opv shv ldv wyv bdv ct dA dA sta stc fev dl dnv rov) sz) := C
  refine gz_iload_n C 0 dX1_between_0 rfl ?_
  refine gz_bipush (v := nI 21) C dX1_between_1 (by decide) ?_
  refine gz_imul (v := nI (a * 21)) C dX1_between_3 (pk_mul _ _) ?_
  refine gz_iload_n C 1 dX1_between_4 rfl ?_
  refine gz_iadd (v := nI ((a * 21) + b)) C dX1_between_5 (nI_add _ _) ?_
  exact gz_iret C hr hk (by first | rfl | (simp only [f1_between]) | (simp only [f1_between]; rfl)) rfl (Nat.le_refl _) (Nat.le_refl _) dX1_between_6

def f1_holds_lp (rov : Nat → Nat) (x : Nat) : Nat → Nat → Bool
  | 0, k => false
  | n + 1, k => if (rov k) = x then true else f1_holds_lp rov x n (k + 1)
set_option maxRecDepth 100000 in
set_option maxHeartbeats 4000000 in
theorem lX1_holds_lp {p : Program} {l : Launch} {e : Env} {R : Room} {s : State} {m : MethodId} {args : Array Value} {below : List Frame} {meth : Method} {c : Code} {cells slots mc ms : Nat} {A : Nat → Prop} {ov : Option Value} {D : va_G} (xo : Nat) (nt : Nat) (es : Nat) (ro : Nat) (ad : Nat → Nat) (cI : ClassId) (cJ : ClassId) (cZ : ClassId) (ln : Int32) (fz : Nat) (sx : Bool) (mo : Int32) (sn : Nat) (bw : Int32) (tkv : Nat → Int64) (opv : Nat → Int64) (shv : Nat → Int64) (ldv : Nat → Int32) (wyv : Nat → Int64) (bdv : Nat → Bool) (ct : Nat) (dA : Nat) (sta : Nat) (stc : Int64) (fev : Nat → Nat) (dl : Nat) (dnv : Nat → Int64) (rov : Nat → Nat) (co : Nat) (x : Nat) (hc : co ≤ 20) (hxx : x ≤ 20) (hro : ∀ k, k < co → rov k ≤ 20) (C : gz_C p s m args c cX1_holds 4 RX1 D [(cI, .int), (cJ, .long), (cZ, .boolean)] A) (hr : meth.sig.returnType = (some .boolean)) (hk : meth.locks = false) (hcm : cells ≤ mc) (hsm : slots ≤ ms) : ∀ (n : Nat) (k : Nat), (k + n = co) → some (.int (bI (f1_holds_lp rov x n k))) = ov → GZ p l e R s m args below meth c 4 D A cells slots (MQ below (gz_Q D [(cI, .int), (cJ, .long), (cZ, .boolean)] ov (wC xo nt es ro ad cI cJ cZ ln fz sx mo sn bw tkv opv shv ldv wyv bdv ct dA dA sta stc fev dl dnv rov) A) args s mc ms A) (wC xo nt es ro ad cI cJ cZ ln fz sx mo sn bw tkv opv shv ldv wyv bdv ct dA dA sta stc fev dl dnv rov) [(0, .ref ro), (1, .int (nI co)), (2, .int (nI x)), (3, .int (nI k))] [] 2 := by
  intro n
  induction n with
  | zero =>
    intro k hme  hov
    refine gz_iload_n C 3 dX1_holds_2 rfl ?_
    refine gz_iload_n C 1 dX1_holds_3 rfl ?_
    refine gz_ncmp_ge C 22 (by omega) (by omega) dX1_holds_4 (by decide) (fun h_1 => ?_) (fun h_1 => ?_)
    · skip
      refine gz_iconst (v := nI 0) C dX1_holds_22 (by decide) ?_
      refine gz_sw (v := .int (nI 0)) (w := .int (bI false)) (by rw [show nI 0 = bI false from (by first | rfl | decide | ((repeat' split) <;> rfl))]) ?_
      exact gz_zret C hr hk (bI_nar _) (by rw [← hov]; first | rfl | (simp only [f1_holds_lp, if_pos h_1])) rfl hcm hsm dX1_holds_23
    · have g_1 : ¬ (co ≤ k) := (Nat.not_le.mpr h_1)
      exfalso; omega
  | succ n ih =>
    intro k hme  hov
    refine gz_iload_n C 3 dX1_holds_2 rfl ?_
    refine gz_iload_n C 1 dX1_holds_3 rfl ?_
    refine gz_ncmp_ge C 22 (by omega) (by omega) dX1_holds_4 (by decide) (fun h_1 => ?_) (fun h_1 => ?_)
    · skip
      exfalso; omega
    · have g_1 : ¬ (co ≤ k) := (Nat.not_le.mpr h_1)
      have hq := hro k (by omega)
      refine gz_aload_n C 0 dX1_holds_7 rfl ?_
      refine gz_iload_n C 3 dX1_holds_8 rfl ?_
      refine gz_iald C 11 0 rfl rfl (by omega) (by decide) dX1_holds_9 ?_
      refine gz_iload_n C 2 dX1_holds_10 rfl ?_
      refine gz_ncmp_ne C 16 (by omega) (by omega) dX1_holds_11 (by decide) (fun h_2 => ?_) (fun h_2 => ?_)
      · have g_2 : ¬ ((rov k) = x) := h_2
        refine gz_iinc (v := nI (k + 1)) (lv2 := [(3, .int (nI (k + 1))), (0, .ref ro), (1, .int (nI co)), (2, .int (nI x))]) (k := 3) C dX1_holds_16 rfl (nI_add _ 1) (by decide) rfl ?_
        refine gz_goto C 2 dX1_holds_19 (by decide) ?_
        refine gz_lv [1, 2, 3, 0] rfl ?_
        simp only [f1_holds_lp, if_neg g_1, if_neg g_2] at hov
        exact ih (k + 1) (by omega)  hov
      · skip
        refine gz_iconst (v := nI 1) C dX1_holds_14 (by decide) ?_
        refine gz_sw (v := .int (nI 1)) (w := .int (bI true)) (by rw [show nI 1 = bI true from (by first | rfl | decide | ((repeat' split) <;> rfl))]) ?_
        exact gz_zret C hr hk (bI_nar _) (by rw [← hov]; first | rfl | (simp only [f1_holds_lp, if_neg g_1, if_pos h_2])) rfl hcm hsm dX1_holds_15

def f1_holds (rov : Nat → Nat) (co : Nat) (x : Nat) : Bool := f1_holds_lp rov x co 0
set_option maxRecDepth 100000 in
set_option maxHeartbeats 4000000 in
theorem kX1_holds (l : Launch) (D : va_G) (xo : Nat) (nt : Nat) (es : Nat) (ro : Nat) (ad : Nat → Nat) (cI : ClassId) (cJ : ClassId) (cZ : ClassId) (ln : Int32) (fz : Nat) (sx : Bool) (mo : Int32) (sn : Nat) (bw : Int32) (tkv : Nat → Int64) (opv : Nat → Int64) (shv : Nat → Int64) (ldv : Nat → Int32) (wyv : Nat → Int64) (bdv : Nat → Bool) (ct : Nat) (dA : Nat) (sta : Nat) (stc : Int64) (fev : Nat → Nat) (dl : Nat) (dnv : Nat → Int64) (rov : Nat → Nat) (co : Nat) (x : Nat) (hc : co ≤ 20) (hxx : x ≤ 20) (hro : ∀ k, k < co → rov k ≤ 20) : gz_M l yX1_holds cX1_holds 4 (some .boolean) ({ frames := 0, cells := 0, slots := 0, locals := 0 } : Room) D [(cI, .int), (cJ, .long), (cZ, .boolean)] [.ref ro, .int (nI co), .int (nI x)] (wC xo nt es ro ad cI cJ cZ ln fz sx mo sn bw tkv opv shv ldv wyv bdv ct dA dA sta stc fev dl dnv rov) (some (.int (bI (f1_holds rov co x)))) (wC xo nt es ro ad cI cJ cZ ln fz sx mo sn bw tkv opv shv ldv wyv bdv ct dA dA sta stc fev dl dnv rov) 0 0 := by
  refine gz_met l (by decide) (Nat.le_of_ble_eq_true rfl) [(0, .ref ro), (1, .int (nI co)), (2, .int (nI x))] rfl ?_
  intro sz p e s m args below meth c C hr hk hnm
  have C : gz_C p s m args c cX1_holds 4 RX1 D [(cI, .int), (cJ, .long), (cZ, .boolean)] (va_A (wC xo nt es ro ad cI cJ cZ ln fz sx mo sn bw tkv opv shv ldv wyv bdv ct dA dA sta stc fev dl dnv rov) sz) := C
  refine gz_iconst (v := nI 0) C dX1_holds_0 (by decide) ?_
  refine gz_istore_n (lv2 := [(3, .int (nI 0)), (0, .ref ro), (1, .int (nI co)), (2, .int (nI x))]) C dX1_holds_1 (by decide) rfl ?_
  refine gz_lv (lv2 := [(0, .ref ro), (1, .int (nI co)), (2, .int (nI x)), (3, .int (nI 0))]) [1, 2, 3, 0] rfl ?_
  exact lX1_holds_lp xo nt es ro ad cI cJ cZ ln fz sx mo sn bw tkv opv shv ldv wyv bdv ct dA sta stc fev dl dnv rov co x (by first | assumption | omega) (by first | assumption | omega) (by first | assumption | omega) C hr hk (Nat.le_refl _) (Nat.le_refl _) co 0 (by omega)  (by first | rfl | (simp only [f1_holds]) | (simp only [f1_holds]; rfl))

def f1_isStop (sn : Nat) (x : Int32) : Bool := (if x ≤ 0 then false else (if (nI sn) < x then false else true))
set_option maxRecDepth 100000 in
set_option maxHeartbeats 4000000 in
theorem kX1_isStop (l : Launch) (D : va_G) (xo : Nat) (nt : Nat) (es : Nat) (ro : Nat) (ad : Nat → Nat) (cI : ClassId) (cJ : ClassId) (cZ : ClassId) (ln : Int32) (fz : Nat) (sx : Bool) (mo : Int32) (sn : Nat) (bw : Int32) (tkv : Nat → Int64) (opv : Nat → Int64) (shv : Nat → Int64) (ldv : Nat → Int32) (wyv : Nat → Int64) (bdv : Nat → Bool) (ct : Nat) (dA : Nat) (sta : Nat) (stc : Int64) (fev : Nat → Nat) (dl : Nat) (dnv : Nat → Int64) (rov : Nat → Nat) (x : Int32) (hsn : sn ≤ 20) : gz_M l yX1_isStop cX1_isStop 2 (some .boolean) ({ frames := 0, cells := 0, slots := 0, locals := 0 } : Room) D [(cI, .int), (cJ, .long), (cZ, .boolean)] [.ref nt, .int x] (wC xo nt es ro ad cI cJ cZ ln fz sx mo sn bw tkv opv shv ldv wyv bdv ct dA dA sta stc fev dl dnv rov) (some (.int (bI (f1_isStop sn x)))) (wC xo nt es ro ad cI cJ cZ ln fz sx mo sn bw tkv opv shv ldv wyv bdv ct dA dA sta stc fev dl dnv rov) 0 0 := by
  refine gz_met l (by decide) (Nat.le_of_ble_eq_true rfl) [(0, .ref nt), (1, .int x)] rfl ?_
  intro sz p e s m args below meth c C hr hk hnm
  have C : gz_C p s m args c cX1_isStop 2 RX1 D [(cI, .int), (cJ, .long), (cZ, .boolean)] (va_A (wC xo nt es ro ad cI cJ cZ ln fz sx mo sn bw tkv opv shv ldv wyv bdv ct dA dA sta stc fev dl dnv rov) sz) := C
  refine gz_iload_n C 1 dX1_isStop_0 rfl ?_
  refine gz_J (ws2 := (wC xo nt es ro ad cI cJ cZ ln fz sx mo sn bw tkv opv shv ldv wyv bdv ct dA dA sta stc fev dl dnv rov)) (lv2 := [(0, .ref nt), (1, .int x)]) (st2 := [.int (nI ((if x ≤ 0 then 0 else (if (nI sn) < x then 0 else 1))))]) (pc2 := 17) ?_ (fun J_1 => ?_)
  rotate_left
  · refine gz_if_le C 16 dX1_isStop_1 (by decide) (fun h_1 => ?_) (fun h_1 => ?_)
    · skip
      refine gz_iconst (v := nI 0) C dX1_isStop_16 (by decide) ?_
      simp only [if_pos h_1] at J_1 ⊢
      exact gz_lv [0, 1] rfl J_1
    · have g_1 : ¬ (x ≤ 0) := h_1
      refine gz_iload_n C 1 dX1_isStop_4 rfl ?_
      refine gz_aload_n C 0 dX1_isStop_5 rfl ?_
      refine gz_get (ci := 2) C iwX1 1 rfl rfl 0 (by decide) wk_27 rfl rfl dX1_isStop_6 ?_
      refine gz_J (ws2 := (wC xo nt es ro ad cI cJ cZ ln fz sx mo sn bw tkv opv shv ldv wyv bdv ct dA dA sta stc fev dl dnv rov)) (lv2 := [(0, .ref nt), (1, .int x)]) (st2 := [.int (nI ((if (nI sn) < x then 0 else 1)))]) (pc2 := 17) ?_ (fun J_2 => ?_)
      rotate_left
      · refine gz_icmp_gt C 16 dX1_isStop_9 (by decide) (fun h_2 => ?_) (fun h_2 => ?_)
        · skip
          refine gz_iconst (v := nI 0) C dX1_isStop_16 (by decide) ?_
          simp only [if_pos h_2] at J_2 ⊢
          exact gz_lv [0, 1] rfl J_2
        · have g_2 : ¬ ((nI sn) < x) := h_2
          refine gz_iconst (v := nI 1) C dX1_isStop_12 (by decide) ?_
          refine gz_goto C 17 dX1_isStop_13 (by decide) ?_
          simp only [if_neg g_2] at J_2 ⊢
          exact gz_lv [0, 1] rfl J_2
      simp only [if_neg g_1] at J_1 ⊢
      exact gz_lv [0, 1] rfl J_1
  refine gz_sw (v := .int (nI ((if x ≤ 0 then 0 else (if (nI sn) < x then 0 else 1))))) (w := .int (bI ((if x ≤ 0 then false else (if (nI sn) < x then false else true))))) (by rw [show nI ((if x ≤ 0 then 0 else (if (nI sn) < x then 0 else 1))) = bI ((if x ≤ 0 then false else (if (nI sn) < x then false else true))) from (by first | rfl | decide | ((repeat' split) <;> rfl))]) ?_
  exact gz_zret C hr hk (bI_nar _) (by first | rfl | (simp only [f1_isStop]) | (simp only [f1_isStop]; rfl)) rfl (Nat.le_refl _) (Nat.le_refl _) dX1_isStop_17

def f1_isPoint (sn : Nat) (x : Int32) : Bool := (if x = 0 then true else (if (f1_isStop sn x) = true then true else false))
set_option maxRecDepth 100000 in
set_option maxHeartbeats 4000000 in
theorem kX1_isPoint (l : Launch) (D : va_G) (xo : Nat) (nt : Nat) (es : Nat) (ro : Nat) (ad : Nat → Nat) (cI : ClassId) (cJ : ClassId) (cZ : ClassId) (ln : Int32) (fz : Nat) (sx : Bool) (mo : Int32) (sn : Nat) (bw : Int32) (tkv : Nat → Int64) (opv : Nat → Int64) (shv : Nat → Int64) (ldv : Nat → Int32) (wyv : Nat → Int64) (bdv : Nat → Bool) (ct : Nat) (dA : Nat) (sta : Nat) (stc : Int64) (fev : Nat → Nat) (dl : Nat) (dnv : Nat → Int64) (rov : Nat → Nat) (x : Int32) (hsn : sn ≤ 20) : gz_M l yX1_isPoint cX1_isPoint 2 (some .boolean) ({ frames := 1, cells := 0, slots := 0, locals := 21 } : Room) D [(cI, .int), (cJ, .long), (cZ, .boolean)] [.ref nt, .int x] (wC xo nt es ro ad cI cJ cZ ln fz sx mo sn bw tkv opv shv ldv wyv bdv ct dA dA sta stc fev dl dnv rov) (some (.int (bI (f1_isPoint sn x)))) (wC xo nt es ro ad cI cJ cZ ln fz sx mo sn bw tkv opv shv ldv wyv bdv ct dA dA sta stc fev dl dnv rov) 0 0 := by
  refine gz_met l (by decide) (Nat.le_of_ble_eq_true rfl) [(0, .ref nt), (1, .int x)] rfl ?_
  intro sz p e s m args below meth c C hr hk hnm
  have C : gz_C p s m args c cX1_isPoint 2 RX1 D [(cI, .int), (cJ, .long), (cZ, .boolean)] (va_A (wC xo nt es ro ad cI cJ cZ ln fz sx mo sn bw tkv opv shv ldv wyv bdv ct dA dA sta stc fev dl dnv rov) sz) := C
  refine gz_iload_n C 1 dX1_isPoint_0 rfl ?_
  refine gz_J (ws2 := (wC xo nt es ro ad cI cJ cZ ln fz sx mo sn bw tkv opv shv ldv wyv bdv ct dA dA sta stc fev dl dnv rov)) (lv2 := [(0, .ref nt), (1, .int x)]) (st2 := [.int (nI ((if x = 0 then 1 else (if (f1_isStop sn x) = true then 1 else 0))))]) (pc2 := 17) ?_ (fun J_1 => ?_)
  rotate_left
  · refine gz_if_eq C 12 dX1_isPoint_1 (by decide) (fun h_1 => ?_) (fun h_1 => ?_)
    · skip
      refine gz_iconst (v := nI 1) C dX1_isPoint_12 (by decide) ?_
      refine gz_goto C 17 dX1_isPoint_13 (by decide) ?_
      simp only [if_pos h_1] at J_1 ⊢
      exact gz_lv [0, 1] rfl J_1
    · have g_1 : ¬ (x = 0) := h_1
      refine gz_aload_n C 0 dX1_isPoint_4 rfl ?_
      refine gz_iload_n C 1 dX1_isPoint_5 rfl ?_
      refine gz_callV (wr := []) (n := 1) (ws2 := (wC xo nt es ro ad cI cJ cZ ln fz sx mo sn bw tkv opv shv ldv wyv bdv ct dA dA sta stc fev dl dnv rov)) (st2 := [.int (bI (f1_isStop sn x))]) (cells2 := 0) (slots2 := 0) (ci := 2) C (kX1_isStop l D xo nt es ro ad cI cJ cZ ln fz sx mo sn bw tkv opv shv ldv wyv bdv ct dA sta stc fev dl dnv rov x (by first | assumption | omega)) (WB_V wk_122 wk_123 wk_124 wk_2 wk_125) (by decide +kernel) ⟨⟨rfl, rfl⟩, Nat.le_of_ble_eq_true rfl, Nat.le_of_ble_eq_true rfl⟩ [0, 1, 2, 3, 4, 5, 6, 7, 8, 9, 10, 11] [] [0, 1, 2] rfl rfl rfl (by decide) rfl 1 rfl rfl rfl rfl (Nat.le_of_ble_eq_true rfl) dX1_isPoint_6 ⟨Nat.zero_le _, Nat.zero_le _⟩ rfl rfl rfl ?_
      refine gz_J (ws2 := (wC xo nt es ro ad cI cJ cZ ln fz sx mo sn bw tkv opv shv ldv wyv bdv ct dA dA sta stc fev dl dnv rov)) (lv2 := [(0, .ref nt), (1, .int x)]) (st2 := [.int (nI ((if (f1_isStop sn x) = true then 1 else 0)))]) (pc2 := 17) ?_ (fun J_2 => ?_)
      rotate_left
      · refine gz_bif_eq C 16 dX1_isPoint_9 (by decide) (fun h_2 => ?_) (fun h_2 => ?_)
        · have g_2 : ¬ ((f1_isStop sn x) = true) := (by rw [h_2]; decide)
          refine gz_iconst (v := nI 0) C dX1_isPoint_16 (by decide) ?_
          simp only [if_neg g_2] at J_2 ⊢
          exact gz_lv [0, 1] rfl J_2
        · skip
          refine gz_iconst (v := nI 1) C dX1_isPoint_12 (by decide) ?_
          refine gz_goto C 17 dX1_isPoint_13 (by decide) ?_
          simp only [if_pos h_2] at J_2 ⊢
          exact gz_lv [0, 1] rfl J_2
      simp only [if_neg g_1] at J_1 ⊢
      exact gz_lv [0, 1] rfl J_1
  refine gz_sw (v := .int (nI ((if x = 0 then 1 else (if (f1_isStop sn x) = true then 1 else 0))))) (w := .int (bI ((if x = 0 then true else (if (f1_isStop sn x) = true then true else false))))) (by rw [show nI ((if x = 0 then 1 else (if (f1_isStop sn x) = true then 1 else 0))) = bI ((if x = 0 then true else (if (f1_isStop sn x) = true then true else false))) from (by first | rfl | decide | ((repeat' split) <;> rfl))]) ?_
  exact gz_zret C hr hk (bI_nar _) (by first | rfl | (simp only [f1_isPoint]) | (simp only [f1_isPoint]; rfl)) rfl (Nat.le_refl _) (Nat.le_refl _) dX1_isPoint_17

def f1_append (sn : Nat) : Int32 := nI (sn + 1)
def f1_append_sn (sn : Nat) : Nat := sn + 1
def f1_append_tkv (sn : Nat) (tkv : Nat → Int64) (ta : Int64) : Nat → Int64 := va_up tkv (sn + 1) ta
def f1_append_opv (sn : Nat) (opv : Nat → Int64) (tb : Int64) : Nat → Int64 := va_up opv (sn + 1) tb
def f1_append_shv (sn : Nat) (shv : Nat → Int64) (tc : Int64) : Nat → Int64 := va_up shv (sn + 1) tc
set_option maxRecDepth 100000 in
set_option maxHeartbeats 4000000 in
theorem kX1_append (l : Launch) (D : va_G) (xo : Nat) (nt : Nat) (es : Nat) (ro : Nat) (ad : Nat → Nat) (cI : ClassId) (cJ : ClassId) (cZ : ClassId) (ln : Int32) (fz : Nat) (sx : Bool) (mo : Int32) (sn : Nat) (bw : Int32) (tkv : Nat → Int64) (opv : Nat → Int64) (shv : Nat → Int64) (ldv : Nat → Int32) (wyv : Nat → Int64) (bdv : Nat → Bool) (ct : Nat) (dA : Nat) (sta : Nat) (stc : Int64) (fev : Nat → Nat) (dl : Nat) (dnv : Nat → Int64) (rov : Nat → Nat) (ta : Int64) (tb : Int64) (tc : Int64) (hsn : sn ≤ 19) : gz_M l yX1_append cX1_append 7 (some .int) ({ frames := 0, cells := 0, slots := 0, locals := 0 } : Room) D [(cI, .int), (cJ, .long), (cZ, .boolean)] [.ref nt, .long ta, .long tb, .long tc] (wC xo nt es ro ad cI cJ cZ ln fz sx mo sn bw tkv opv shv ldv wyv bdv ct dA dA sta stc fev dl dnv rov) (some (.int (f1_append sn))) (wC xo nt es ro ad cI cJ cZ ln fz sx mo (f1_append_sn sn) bw (f1_append_tkv sn tkv ta) (f1_append_opv sn opv tb) (f1_append_shv sn shv tc) ldv wyv bdv ct dA dA sta stc fev dl dnv rov) 0 0 := by
  refine gz_met l (by decide) (Nat.le_of_ble_eq_true rfl) [(0, .ref nt), (1, .long ta), (3, .long tb), (5, .long tc)] rfl ?_
  intro sz p e s m args below meth c C hr hk hnm
  have C : gz_C p s m args c cX1_append 7 RX1 D [(cI, .int), (cJ, .long), (cZ, .boolean)] (va_A (wC xo nt es ro ad cI cJ cZ ln fz sx mo sn bw tkv opv shv ldv wyv bdv ct dA dA sta stc fev dl dnv rov) sz) := C
  refine gz_aload_n C 0 dX1_append_0 rfl ?_
  refine gz_dup C dX1_append_1 rfl ?_
  refine gz_get (ci := 2) C iwX1 1 rfl rfl 0 (by decide) wk_27 rfl rfl dX1_append_2 ?_
  refine gz_iconst (v := nI 1) C dX1_append_5 (by decide) ?_
  refine gz_iadd (v := nI (sn + 1)) C dX1_append_6 (nI_add _ _) ?_
  refine gz_put (ci := 2) (ws2 := (wC xo nt es ro ad cI cJ cZ ln fz sx mo (sn + 1) bw tkv opv shv ldv wyv bdv ct dA dA sta stc fev dl dnv rov)) C iwX1 1 rfl rfl 0 (by decide) wk_27 rfl tyX1 tyX1_ok nmX1 rfl rfl rfl rfl (Nat.le_of_ble_eq_true rfl) rfl dX1_append_7 ?_
  refine gz_aload_n C 0 dX1_append_10 rfl ?_
  refine gz_get (ci := 2) C iwX1 1 rfl rfl 2 (by decide) wk_31 rfl rfl dX1_append_11 ?_
  refine gz_aload_n C 0 dX1_append_14 rfl ?_
  refine gz_get (ci := 2) C iwX1 1 rfl rfl 0 (by decide) wk_27 rfl rfl dX1_append_15 ?_
  refine gz_lload_n C 1 dX1_append_18 rfl ?_
  refine gz_last (ws2 := (wC xo nt es ro ad cI cJ cZ ln fz sx mo (sn + 1) bw (va_up tkv (sn + 1) ta) opv shv ldv wyv bdv ct dA dA sta stc fev dl dnv rov)) C 2 1 rfl rfl (by omega) (by decide) rfl dX1_append_19 ?_
  refine gz_aload_n C 0 dX1_append_20 rfl ?_
  refine gz_get (ci := 2) C iwX1 1 rfl rfl 3 (by decide) wk_32 rfl rfl dX1_append_21 ?_
  refine gz_aload_n C 0 dX1_append_24 rfl ?_
  refine gz_get (ci := 2) C iwX1 1 rfl rfl 0 (by decide) wk_27 rfl rfl dX1_append_25 ?_
  refine gz_lload_n C 2 dX1_append_28 rfl ?_
  refine gz_last (ws2 := (wC xo nt es ro ad cI cJ cZ ln fz sx mo (sn + 1) bw (va_up tkv (sn + 1) ta) (va_up opv (sn + 1) tb) shv ldv wyv bdv ct dA dA sta stc fev dl dnv rov)) C 3 1 rfl rfl (by omega) (by decide) rfl dX1_append_29 ?_
  refine gz_aload_n C 0 dX1_append_30 rfl ?_
  refine gz_get (ci := 2) C iwX1 1 rfl rfl 4 (by decide) wk_33 rfl rfl dX1_append_31 ?_
  refine gz_aload_n C 0 dX1_append_34 rfl ?_
  refine gz_get (ci := 2) C iwX1 1 rfl rfl 0 (by decide) wk_27 rfl rfl dX1_append_35 ?_
  refine gz_lload C 3 dX1_append_38 rfl ?_
  refine gz_last (ws2 := (wC xo nt es ro ad cI cJ cZ ln fz sx mo (sn + 1) bw (va_up tkv (sn + 1) ta) (va_up opv (sn + 1) tb) (va_up shv (sn + 1) tc) ldv wyv bdv ct dA dA sta stc fev dl dnv rov)) C 4 1 rfl rfl (by omega) (by decide) rfl dX1_append_40 ?_
  refine gz_aload_n C 0 dX1_append_41 rfl ?_
  refine gz_get (ci := 2) C iwX1 1 rfl rfl 0 (by decide) wk_27 rfl rfl dX1_append_42 ?_
  exact gz_iret C hr hk (by first | rfl | (simp only [f1_append, f1_append_sn, f1_append_tkv, f1_append_opv, f1_append_shv]) | (simp only [f1_append, f1_append_sn, f1_append_tkv, f1_append_opv, f1_append_shv]; rfl)) (by first | rfl | (simp only [f1_append, f1_append_sn, f1_append_tkv, f1_append_opv, f1_append_shv]) | (simp only [f1_append, f1_append_sn, f1_append_tkv, f1_append_opv, f1_append_shv]; rfl)) (Nat.le_refl _) (Nat.le_refl _) dX1_append_45

def f1_tellWay_wyv (wyv : Nat → Int64) (a : Nat) (b : Nat) (t : Int64) : Nat → Int64 := va_up wyv (a * 21 + b) t
set_option maxRecDepth 100000 in
set_option maxHeartbeats 4000000 in
theorem kX1_tellWay (l : Launch) (D : va_G) (xo : Nat) (nt : Nat) (es : Nat) (ro : Nat) (ad : Nat → Nat) (cI : ClassId) (cJ : ClassId) (cZ : ClassId) (ln : Int32) (fz : Nat) (sx : Bool) (mo : Int32) (sn : Nat) (bw : Int32) (tkv : Nat → Int64) (opv : Nat → Int64) (shv : Nat → Int64) (ldv : Nat → Int32) (wyv : Nat → Int64) (bdv : Nat → Bool) (ct : Nat) (dA : Nat) (sta : Nat) (stc : Int64) (fev : Nat → Nat) (dl : Nat) (dnv : Nat → Int64) (rov : Nat → Nat) (a : Nat) (b : Nat) (t : Int64) (ha : a ≤ 20) (hb : b ≤ 20) : gz_M l yX1_tellWay cX1_tellWay 5 none ({ frames := 1, cells := 0, slots := 0, locals := 21 } : Room) D [(cI, .int), (cJ, .long), (cZ, .boolean)] [.ref nt, .int (nI a), .int (nI b), .long t] (wC xo nt es ro ad cI cJ cZ ln fz sx mo sn bw tkv opv shv ldv wyv bdv ct dA dA sta stc fev dl dnv rov) (none) (wC xo nt es ro ad cI cJ cZ ln fz sx mo sn bw tkv opv shv ldv (f1_tellWay_wyv wyv a b t) bdv ct dA dA sta stc fev dl dnv rov) 0 0 := by
  refine gz_met l (by decide) (Nat.le_of_ble_eq_true rfl) [(0, .ref nt), (1, .int (nI a)), (2, .int (nI b)), (3, .long t)] rfl ?_
  intro sz p e s m args below meth c C hr hk hnm
  have C : gz_C p s m args c cX1_tellWay 5 RX1 D [(cI, .int), (cJ, .long), (cZ, .boolean)] (va_A (wC xo nt es ro ad cI cJ cZ ln fz sx mo sn bw tkv opv shv ldv wyv bdv ct dA dA sta stc fev dl dnv rov) sz) := C
  refine gz_aload_n C 0 dX1_tellWay_0 rfl ?_
  refine gz_get (ci := 2) C iwX1 1 rfl rfl 6 (by decide) wk_35 rfl rfl dX1_tellWay_1 ?_
  refine gz_iload_n C 1 dX1_tellWay_4 rfl ?_
  refine gz_iload_n C 2 dX1_tellWay_5 rfl ?_
  refine gz_callS (wr := []) (n := 2) (ws2 := (wC xo nt es ro ad cI cJ cZ ln fz sx mo sn bw tkv opv shv ldv wyv bdv ct dA dA sta stc fev dl dnv rov)) (st2 := [.int (nI (a * 21 + b)), .ref ((ad 6))]) (cells2 := 0) (slots2 := 0) C (kX1_between l D xo nt es ro ad cI cJ cZ ln fz sx mo sn bw tkv opv shv ldv wyv bdv ct dA sta stc fev dl dnv rov a b ) (WB_S wk_130 wk_131 wk_2 wk_132) (by decide +kernel) ⟨⟨rfl, rfl⟩, Nat.le_of_ble_eq_true rfl, Nat.le_of_ble_eq_true rfl⟩ [0, 1, 2, 3, 4, 5, 6, 7, 8, 9, 10, 11] [] [0, 1, 2] rfl rfl rfl (by decide) rfl rfl rfl (Nat.le_of_ble_eq_true rfl) dX1_tellWay_6 ⟨Nat.zero_le _, Nat.zero_le _⟩ rfl rfl rfl ?_
  refine gz_lload_n C 3 dX1_tellWay_9 rfl ?_
  refine gz_last (ws2 := (wC xo nt es ro ad cI cJ cZ ln fz sx mo sn bw tkv opv shv ldv (va_up wyv (a * 21 + b) t) bdv ct dA dA sta stc fev dl dnv rov)) C 6 1 rfl rfl (by omega) (by decide) rfl dX1_tellWay_10 ?_
  exact gz_vret C hr hk (by first | rfl | (simp only [f1_tellWay_wyv]) | (simp only [f1_tellWay_wyv]; rfl)) (by first | rfl | (simp only [f1_tellWay_wyv]) | (simp only [f1_tellWay_wyv]; rfl)) (Nat.le_refl _) (Nat.le_refl _) dX1_tellWay_11

def f1_tellLoad_ldv (ldv : Nat → Int32) (a : Nat) (y : Int32) : Nat → Int32 := va_up ldv a y
set_option maxRecDepth 100000 in
set_option maxHeartbeats 4000000 in
theorem kX1_tellLoad (l : Launch) (D : va_G) (xo : Nat) (nt : Nat) (es : Nat) (ro : Nat) (ad : Nat → Nat) (cI : ClassId) (cJ : ClassId) (cZ : ClassId) (ln : Int32) (fz : Nat) (sx : Bool) (mo : Int32) (sn : Nat) (bw : Int32) (tkv : Nat → Int64) (opv : Nat → Int64) (shv : Nat → Int64) (ldv : Nat → Int32) (wyv : Nat → Int64) (bdv : Nat → Bool) (ct : Nat) (dA : Nat) (sta : Nat) (stc : Int64) (fev : Nat → Nat) (dl : Nat) (dnv : Nat → Int64) (rov : Nat → Nat) (a : Nat) (y : Int32) (ha : a ≤ 20) : gz_M l yX1_tellLoad cX1_tellLoad 3 none ({ frames := 0, cells := 0, slots := 0, locals := 0 } : Room) D [(cI, .int), (cJ, .long), (cZ, .boolean)] [.ref nt, .int (nI a), .int y] (wC xo nt es ro ad cI cJ cZ ln fz sx mo sn bw tkv opv shv ldv wyv bdv ct dA dA sta stc fev dl dnv rov) (none) (wC xo nt es ro ad cI cJ cZ ln fz sx mo sn bw tkv opv shv (f1_tellLoad_ldv ldv a y) wyv bdv ct dA dA sta stc fev dl dnv rov) 0 0 := by
  refine gz_met l (by decide) (Nat.le_of_ble_eq_true rfl) [(0, .ref nt), (1, .int (nI a)), (2, .int y)] rfl ?_
  intro sz p e s m args below meth c C hr hk hnm
  have C : gz_C p s m args c cX1_tellLoad 3 RX1 D [(cI, .int), (cJ, .long), (cZ, .boolean)] (va_A (wC xo nt es ro ad cI cJ cZ ln fz sx mo sn bw tkv opv shv ldv wyv bdv ct dA dA sta stc fev dl dnv rov) sz) := C
  refine gz_aload_n C 0 dX1_tellLoad_0 rfl ?_
  refine gz_get (ci := 2) C iwX1 1 rfl rfl 5 (by decide) wk_34 rfl rfl dX1_tellLoad_1 ?_
  refine gz_iload_n C 1 dX1_tellLoad_4 rfl ?_
  refine gz_iload_n C 2 dX1_tellLoad_5 rfl ?_
  refine gz_iastr (ws2 := (wC xo nt es ro ad cI cJ cZ ln fz sx mo sn bw tkv opv shv (va_up ldv a y) wyv bdv ct dA dA sta stc fev dl dnv rov)) C 5 0 rfl rfl (by omega) (by decide) rfl dX1_tellLoad_6 ?_
  exact gz_vret C hr hk (by first | rfl | (simp only [f1_tellLoad_ldv]) | (simp only [f1_tellLoad_ldv]; rfl)) (by first | rfl | (simp only [f1_tellLoad_ldv]) | (simp only [f1_tellLoad_ldv]; rfl)) (Nat.le_refl _) (Nat.le_refl _) dX1_tellLoad_7

def f1_loads_lp (ldv : Nat → Int32) : Nat → Int32 → Nat → Int32 × Nat
  | 0, u, k => (u, k)
  | n + 1, u, k => f1_loads_lp ldv n (u + ((ldv k))) (k + 1)
set_option maxRecDepth 100000 in
set_option maxHeartbeats 4000000 in
theorem lX1_loads_lp {p : Program} {l : Launch} {e : Env} {R : Room} {s : State} {m : MethodId} {args : Array Value} {below : List Frame} {meth : Method} {c : Code} {cells slots : Nat} {Q : State → Prop} {A : Nat → Prop} {D : va_G} (xo : Nat) (nt : Nat) (es : Nat) (ro : Nat) (ad : Nat → Nat) (cI : ClassId) (cJ : ClassId) (cZ : ClassId) (ln : Int32) (fz : Nat) (sx : Bool) (mo : Int32) (sn : Nat) (bw : Int32) (tkv : Nat → Int64) (opv : Nat → Int64) (shv : Nat → Int64) (ldv : Nat → Int32) (wyv : Nat → Int64) (bdv : Nat → Bool) (ct : Nat) (dA : Nat) (sta : Nat) (stc : Int64) (fev : Nat → Nat) (dl : Nat) (dnv : Nat → Int64) (rov : Nat → Nat) (hsn : sn ≤ 20) (C : gz_C p s m args c cX1_loads 3 RX1 D [(cI, .int), (cJ, .long), (cZ, .boolean)] A) : ∀ (n : Nat) (u : Int32) (k : Nat), (k + n = sn + 1) → ((((f1_loads_lp ldv n u k).2) + 0 = sn + 1) → GZ p l e R s m args below meth c 3 D A cells slots Q (wC xo nt es ro ad cI cJ cZ ln fz sx mo sn bw tkv opv shv ldv wyv bdv ct dA dA sta stc fev dl dnv rov) [(0, .ref nt), (1, .int ((f1_loads_lp ldv n u k).1)), (2, .int (nI ((f1_loads_lp ldv n u k).2)))] [] 27) → GZ p l e R s m args below meth c 3 D A cells slots Q (wC xo nt es ro ad cI cJ cZ ln fz sx mo sn bw tkv opv shv ldv wyv bdv ct dA dA sta stc fev dl dnv rov) [(0, .ref nt), (1, .int u), (2, .int (nI k))] [] 4 := by
  intro n
  induction n with
  | zero =>
    intro u k hme  hx
    refine gz_iload_n C 2 dX1_loads_4 rfl ?_
    refine gz_aload_n C 0 dX1_loads_5 rfl ?_
    refine gz_get (ci := 2) C iwX1 1 rfl rfl 0 (by decide) wk_27 rfl rfl dX1_loads_6 ?_
    refine gz_ncmp_gt C 27 (by omega) (by omega) dX1_loads_9 (by decide) (fun h_1 => ?_) (fun h_1 => ?_)
    · skip
      exact gz_lv [0, 1, 2] rfl (hx hme )
    · have g_1 : ¬ (sn < k) := (Nat.not_lt.mpr h_1)
      exfalso; omega
  | succ n ih =>
    intro u k hme  hx
    refine gz_iload_n C 2 dX1_loads_4 rfl ?_
    refine gz_aload_n C 0 dX1_loads_5 rfl ?_
    refine gz_get (ci := 2) C iwX1 1 rfl rfl 0 (by decide) wk_27 rfl rfl dX1_loads_6 ?_
    refine gz_ncmp_gt C 27 (by omega) (by omega) dX1_loads_9 (by decide) (fun h_1 => ?_) (fun h_1 => ?_)
    · skip
      exfalso; omega
    · have g_1 : ¬ (sn < k) := (Nat.not_lt.mpr h_1)
      refine gz_iload_n C 1 dX1_loads_12 rfl ?_
      refine gz_aload_n C 0 dX1_loads_13 rfl ?_
      refine gz_get (ci := 2) C iwX1 1 rfl rfl 5 (by decide) wk_34 rfl rfl dX1_loads_14 ?_
      refine gz_iload_n C 2 dX1_loads_17 rfl ?_
      refine gz_ialdr C 5 0 rfl rfl (by omega) (by decide) dX1_loads_18 ?_
      refine gz_iadd (v := (u + ((ldv k)))) C dX1_loads_19 rfl ?_
      refine gz_istore_n (lv2 := [(1, .int (u + ((ldv k)))), (0, .ref nt), (2, .int (nI k))]) C dX1_loads_20 (by decide) rfl ?_
      refine gz_iinc (v := nI (k + 1)) (lv2 := [(2, .int (nI (k + 1))), (1, .int (u + ((ldv k)))), (0, .ref nt)]) (k := 2) C dX1_loads_21 rfl (nI_add _ 1) (by decide) rfl ?_
      refine gz_goto C 4 dX1_loads_24 (by decide) ?_
      refine gz_lv [2, 1, 0] rfl ?_
      simp only [f1_loads_lp, if_neg g_1] at hx
      exact ih (u + ((ldv k))) (k + 1) (by omega)  hx

def f1_loads (sn : Nat) (ldv : Nat → Int32) : Int32 := (f1_loads_lp ldv sn (nI 0) 1).1
set_option maxRecDepth 100000 in
set_option maxHeartbeats 4000000 in
theorem kX1_loads (l : Launch) (D : va_G) (xo : Nat) (nt : Nat) (es : Nat) (ro : Nat) (ad : Nat → Nat) (cI : ClassId) (cJ : ClassId) (cZ : ClassId) (ln : Int32) (fz : Nat) (sx : Bool) (mo : Int32) (sn : Nat) (bw : Int32) (tkv : Nat → Int64) (opv : Nat → Int64) (shv : Nat → Int64) (ldv : Nat → Int32) (wyv : Nat → Int64) (bdv : Nat → Bool) (ct : Nat) (dA : Nat) (sta : Nat) (stc : Int64) (fev : Nat → Nat) (dl : Nat) (dnv : Nat → Int64) (rov : Nat → Nat) (hsn : sn ≤ 20) : gz_M l yX1_loads cX1_loads 3 (some .int) ({ frames := 0, cells := 0, slots := 0, locals := 0 } : Room) D [(cI, .int), (cJ, .long), (cZ, .boolean)] [.ref nt] (wC xo nt es ro ad cI cJ cZ ln fz sx mo sn bw tkv opv shv ldv wyv bdv ct dA dA sta stc fev dl dnv rov) (some (.int (f1_loads sn ldv))) (wC xo nt es ro ad cI cJ cZ ln fz sx mo sn bw tkv opv shv ldv wyv bdv ct dA dA sta stc fev dl dnv rov) 0 0 := by
  refine gz_met l (by decide) (Nat.le_of_ble_eq_true rfl) [(0, .ref nt)] rfl ?_
  intro sz p e s m args below meth c C hr hk hnm
  have C : gz_C p s m args c cX1_loads 3 RX1 D [(cI, .int), (cJ, .long), (cZ, .boolean)] (va_A (wC xo nt es ro ad cI cJ cZ ln fz sx mo sn bw tkv opv shv ldv wyv bdv ct dA dA sta stc fev dl dnv rov) sz) := C
  refine gz_iconst (v := nI 0) C dX1_loads_0 (by decide) ?_
  refine gz_istore_n (lv2 := [(1, .int (nI 0)), (0, .ref nt)]) C dX1_loads_1 (by decide) rfl ?_
  refine gz_iconst (v := nI 1) C dX1_loads_2 (by decide) ?_
  refine gz_istore_n (lv2 := [(2, .int (nI 1)), (1, .int (nI 0)), (0, .ref nt)]) C dX1_loads_3 (by decide) rfl ?_
  refine gz_lv (lv2 := [(0, .ref nt), (1, .int (nI 0)), (2, .int (nI 1))]) [2, 1, 0] rfl ?_
  refine lX1_loads_lp xo nt es ro ad cI cJ cZ ln fz sx mo sn bw tkv opv shv ldv wyv bdv ct dA sta stc fev dl dnv rov (by first | assumption | omega) C sn (nI 0) 1 (by omega)  ?_
  intro zme_lp
  refine gz_iload_n C 1 dX1_loads_27 rfl ?_
  exact gz_iret C hr hk (by first | rfl | (simp only [f1_loads]) | (simp only [f1_loads]; rfl)) rfl (Nat.le_refl _) (Nat.le_refl _) dX1_loads_28

def f1_bar (bw : Int32) (bdv : Nat → Bool) (a : Nat) (b : Nat) (sh : Bool) : Int32 := (if (bI (bdv (a * 21 + b))) = (bI sh) then bw else bw + (((if sh = true then nI 1 else (-1)))))
def f1_bar_bw (bw : Int32) (bdv : Nat → Bool) (a : Nat) (b : Nat) (sh : Bool) : Int32 := (if (bI (bdv (a * 21 + b))) = (bI sh) then bw else bw + (((if sh = true then nI 1 else (-1)))))
def f1_bar_bdv (bdv : Nat → Bool) (a : Nat) (b : Nat) (sh : Bool) : Nat → Bool := (if (bI (bdv (a * 21 + b))) = (bI sh) then bdv else va_up bdv (a * 21 + b) sh)
set_option maxRecDepth 100000 in
set_option maxHeartbeats 4000000 in
theorem kX1_bar (l : Launch) (D : va_G) (xo : Nat) (nt : Nat) (es : Nat) (ro : Nat) (ad : Nat → Nat) (cI : ClassId) (cJ : ClassId) (cZ : ClassId) (ln : Int32) (fz : Nat) (sx : Bool) (mo : Int32) (sn : Nat) (bw : Int32) (tkv : Nat → Int64) (opv : Nat → Int64) (shv : Nat → Int64) (ldv : Nat → Int32) (wyv : Nat → Int64) (bdv : Nat → Bool) (ct : Nat) (dA : Nat) (sta : Nat) (stc : Int64) (fev : Nat → Nat) (dl : Nat) (dnv : Nat → Int64) (rov : Nat → Nat) (a : Nat) (b : Nat) (sh : Bool) (ha : a ≤ 20) (hb : b ≤ 20) : gz_M l yX1_bar cX1_bar 5 (some .int) ({ frames := 1, cells := 0, slots := 0, locals := 21 } : Room) D [(cI, .int), (cJ, .long), (cZ, .boolean)] [.ref nt, .int (nI a), .int (nI b), .int (bI sh)] (wC xo nt es ro ad cI cJ cZ ln fz sx mo sn bw tkv opv shv ldv wyv bdv ct dA dA sta stc fev dl dnv rov) (some (.int (f1_bar bw bdv a b sh))) (wC xo nt es ro ad cI cJ cZ ln fz sx mo sn (f1_bar_bw bw bdv a b sh) tkv opv shv ldv wyv (f1_bar_bdv bdv a b sh) ct dA dA sta stc fev dl dnv rov) 0 0 := by
  refine gz_met l (by decide) (Nat.le_of_ble_eq_true rfl) [(0, .ref nt), (1, .int (nI a)), (2, .int (nI b)), (3, .int (bI sh))] rfl ?_
  intro sz p e s m args below meth c C hr hk hnm
  have C : gz_C p s m args c cX1_bar 5 RX1 D [(cI, .int), (cJ, .long), (cZ, .boolean)] (va_A (wC xo nt es ro ad cI cJ cZ ln fz sx mo sn bw tkv opv shv ldv wyv bdv ct dA dA sta stc fev dl dnv rov) sz) := C
  refine gz_iload_n C 1 dX1_bar_0 rfl ?_
  refine gz_iload_n C 2 dX1_bar_1 rfl ?_
  refine gz_callS (wr := []) (n := 2) (ws2 := (wC xo nt es ro ad cI cJ cZ ln fz sx mo sn bw tkv opv shv ldv wyv bdv ct dA dA sta stc fev dl dnv rov)) (st2 := [.int (nI (a * 21 + b))]) (cells2 := 0) (slots2 := 0) C (kX1_between l D xo nt es ro ad cI cJ cZ ln fz sx mo sn bw tkv opv shv ldv wyv bdv ct dA sta stc fev dl dnv rov a b ) (WB_S wk_130 wk_131 wk_2 wk_132) (by decide +kernel) ⟨⟨rfl, rfl⟩, Nat.le_of_ble_eq_true rfl, Nat.le_of_ble_eq_true rfl⟩ [0, 1, 2, 3, 4, 5, 6, 7, 8, 9, 10, 11] [] [0, 1, 2] rfl rfl rfl (by decide) rfl rfl rfl (Nat.le_of_ble_eq_true rfl) dX1_bar_2 ⟨Nat.zero_le _, Nat.zero_le _⟩ rfl rfl rfl ?_
  refine gz_istore (lv2 := [(4, .int (nI (a * 21 + b))), (0, .ref nt), (1, .int (nI a)), (2, .int (nI b)), (3, .int (bI sh))]) C dX1_bar_5 (by decide) rfl ?_
  refine gz_aload_n C 1 dX1_bar_7 rfl ?_
  refine gz_get (ci := 2) C iwX1 1 rfl rfl 7 (by decide) wk_36 rfl rfl dX1_bar_8 ?_
  refine gz_iload C 0 dX1_bar_11 rfl ?_
  refine gz_zald C 7 2 rfl rfl (by omega) (by decide) dX1_bar_13 ?_
  refine gz_iload_n C 4 dX1_bar_14 rfl ?_
  refine gz_J (ws2 := (wC xo nt es ro ad cI cJ cZ ln fz sx mo sn ((if (bI (bdv (a * 21 + b))) = (bI sh) then bw else bw + (((if sh = true then nI 1 else (-1)))))) tkv opv shv ldv wyv ((if (bI (bdv (a * 21 + b))) = (bI sh) then bdv else va_up bdv (a * 21 + b) sh)) ct dA dA sta stc fev dl dnv rov)) (lv2 := [(4, .int (nI (a * 21 + b))), (0, .ref nt), (1, .int (nI a)), (2, .int (nI b)), (3, .int (bI sh))]) (st2 := []) (pc2 := 44) ?_ (fun J_1 => ?_)
  rotate_left
  · refine gz_icmp_eq C 44 dX1_bar_15 (by decide) (fun h_1 => ?_) (fun h_1 => ?_)
    · skip
      simp only [if_pos h_1] at J_1 ⊢
      exact gz_lv [0, 1, 2, 3, 4] rfl J_1
    · have g_1 : ¬ ((bI (bdv (a * 21 + b))) = (bI sh)) := h_1
      refine gz_aload_n C 1 dX1_bar_18 rfl ?_
      refine gz_get (ci := 2) C iwX1 1 rfl rfl 7 (by decide) wk_36 rfl rfl dX1_bar_19 ?_
      refine gz_iload C 0 dX1_bar_22 rfl ?_
      refine gz_iload_n C 4 dX1_bar_24 rfl ?_
      refine gz_zast (ws2 := (wC xo nt es ro ad cI cJ cZ ln fz sx mo sn bw tkv opv shv ldv wyv (va_up bdv (a * 21 + b) sh) ct dA dA sta stc fev dl dnv rov)) C 7 2 rfl rfl (by omega) (by decide) rfl dX1_bar_25 ?_
      refine gz_aload_n C 1 dX1_bar_26 rfl ?_
      refine gz_dup C dX1_bar_27 rfl ?_
      refine gz_get (ci := 2) C iwX1 1 rfl rfl 1 (by decide) wk_30 rfl rfl dX1_bar_28 ?_
      refine gz_iload_n C 4 dX1_bar_31 rfl ?_
      refine gz_J (ws2 := (wC xo nt es ro ad cI cJ cZ ln fz sx mo sn bw tkv opv shv ldv wyv (va_up bdv (a * 21 + b) sh) ct dA dA sta stc fev dl dnv rov)) (lv2 := [(4, .int (nI (a * 21 + b))), (0, .ref nt), (1, .int (nI a)), (2, .int (nI b)), (3, .int (bI sh))]) (st2 := [.int ((if sh = true then nI 1 else (-1))), .int bw, .ref nt]) (pc2 := 40) ?_ (fun J_2 => ?_)
      rotate_left
      · refine gz_bif_eq C 39 dX1_bar_32 (by decide) (fun h_2 => ?_) (fun h_2 => ?_)
        · have g_2 : ¬ (sh = true) := (by rw [h_2]; decide)
          refine gz_iconst (v := ((-1))) C dX1_bar_39 (by decide) ?_
          simp only [if_neg g_2] at J_2 ⊢
          exact gz_lv [0, 1, 2, 3, 4] rfl J_2
        · skip
          refine gz_iconst (v := nI 1) C dX1_bar_35 (by decide) ?_
          refine gz_goto C 40 dX1_bar_36 (by decide) ?_
          simp only [if_pos h_2] at J_2 ⊢
          exact gz_lv [0, 1, 2, 3, 4] rfl J_2
      refine gz_iadd (v := (bw + (((if sh = true then nI 1 else (-1)))))) C dX1_bar_40 rfl ?_
      refine gz_put (ci := 2) (ws2 := (wC xo nt es ro ad cI cJ cZ ln fz sx mo sn (bw + (((if sh = true then nI 1 else (-1))))) tkv opv shv ldv wyv (va_up bdv (a * 21 + b) sh) ct dA dA sta stc fev dl dnv rov)) C iwX1 1 rfl rfl 1 (by decide) wk_30 rfl tyX1 tyX1_ok nmX1 rfl rfl rfl rfl (Nat.le_of_ble_eq_true rfl) rfl dX1_bar_41 ?_
      simp only [if_neg g_1] at J_1 ⊢
      exact gz_lv [0, 1, 2, 3, 4] rfl J_1
  refine gz_aload_n C 1 dX1_bar_44 rfl ?_
  refine gz_get (ci := 2) C iwX1 1 rfl rfl 1 (by decide) wk_30 rfl rfl dX1_bar_45 ?_
  exact gz_iret C hr hk (by first | rfl | (simp only [f1_bar, f1_bar_bw, f1_bar_bdv]) | (simp only [f1_bar, f1_bar_bw, f1_bar_bdv]; rfl)) (by first | rfl | (simp only [f1_bar, f1_bar_bw, f1_bar_bdv]) | (simp only [f1_bar, f1_bar_bw, f1_bar_bdv]; rfl)) (Nat.le_refl _) (Nat.le_refl _) dX1_bar_48

def f1_doneAt (tkv : Nat → Int64) (opv : Nat → Int64) (a : Nat) (t : Int64) : Int64 := ((if opv a < t then t else opv a)) + (tkv a)
set_option maxRecDepth 100000 in
set_option maxHeartbeats 4000000 in
theorem kX1_doneAt (l : Launch) (D : va_G) (xo : Nat) (nt : Nat) (es : Nat) (ro : Nat) (ad : Nat → Nat) (cI : ClassId) (cJ : ClassId) (cZ : ClassId) (ln : Int32) (fz : Nat) (sx : Bool) (mo : Int32) (sn : Nat) (bw : Int32) (tkv : Nat → Int64) (opv : Nat → Int64) (shv : Nat → Int64) (ldv : Nat → Int32) (wyv : Nat → Int64) (bdv : Nat → Bool) (ct : Nat) (dA : Nat) (sta : Nat) (stc : Int64) (fev : Nat → Nat) (dl : Nat) (dnv : Nat → Int64) (rov : Nat → Nat) (a : Nat) (t : Int64) (ha : a ≤ 20) : gz_M l yX1_doneAt cX1_doneAt 4 (some .long) ({ frames := 1, cells := 0, slots := 0, locals := 23 } : Room) D [(cI, .int), (cJ, .long), (cZ, .boolean)] [.ref nt, .int (nI a), .long t] (wC xo nt es ro ad cI cJ cZ ln fz sx mo sn bw tkv opv shv ldv wyv bdv ct dA dA sta stc fev dl dnv rov) (some (.long (f1_doneAt tkv opv a t))) (wC xo nt es ro ad cI cJ cZ ln fz sx mo sn bw tkv opv shv ldv wyv bdv ct dA dA sta stc fev dl dnv rov) 0 0 := by
  refine gz_met l (by decide) (Nat.le_of_ble_eq_true rfl) [(0, .ref nt), (1, .int (nI a)), (2, .long t)] rfl ?_
  intro sz p e s m args below meth c C hr hk hnm
  have C : gz_C p s m args c cX1_doneAt 4 RX1 D [(cI, .int), (cJ, .long), (cZ, .boolean)] (va_A (wC xo nt es ro ad cI cJ cZ ln fz sx mo sn bw tkv opv shv ldv wyv bdv ct dA dA sta stc fev dl dnv rov) sz) := C
  refine gz_lload_n C 2 dX1_doneAt_0 rfl ?_
  refine gz_aload_n C 0 dX1_doneAt_1 rfl ?_
  refine gz_get (ci := 2) C iwX1 1 rfl rfl 3 (by decide) wk_32 rfl rfl dX1_doneAt_2 ?_
  refine gz_iload_n C 1 dX1_doneAt_5 rfl ?_
  refine gz_lald C 3 1 rfl rfl (by omega) (by decide) dX1_doneAt_6 ?_
  refine gz_mmax_long (v := (if opv a < t then t else opv a)) C wk_172 wk_173 wk_5 wk_174 (by decide) (by decide) (Nat.zero_le _) (Nat.zero_le _) dX1_doneAt_7 rfl ?_
  refine gz_aload_n C 0 dX1_doneAt_10 rfl ?_
  refine gz_get (ci := 2) C iwX1 1 rfl rfl 2 (by decide) wk_31 rfl rfl dX1_doneAt_11 ?_
  refine gz_iload_n C 1 dX1_doneAt_14 rfl ?_
  refine gz_lald C 2 1 rfl rfl (by omega) (by decide) dX1_doneAt_15 ?_
  refine gz_ladd (v := ((if opv a < t then t else opv a)) + (tkv a)) C dX1_doneAt_16 rfl ?_
  exact gz_lret C hr hk (by first | rfl | (simp only [f1_doneAt]) | (simp only [f1_doneAt]; rfl)) rfl (Nat.le_refl _) (Nat.le_refl _) dX1_doneAt_17

def f1_goodLeg (tkv : Nat → Int64) (opv : Nat → Int64) (shv : Nat → Int64) (wyv : Nat → Int64) (bdv : Nat → Bool) (a : Nat) (t : Int64) (b : Nat) : Int64 := (if t = 1000000000000000 then 1000000000000000 else (if (bdv (a * 21 + b)) = true then 1000000000000000 else (if (t + (wyv (a * 21 + b))) ≤ (shv b) then f1_doneAt tkv opv b (t + (wyv (a * 21 + b))) else 1000000000000000)))
set_option maxRecDepth 100000 in
set_option maxHeartbeats 4000000 in
theorem kX1_goodLeg (l : Launch) (D : va_G) (xo : Nat) (nt : Nat) (es : Nat) (ro : Nat) (ad : Nat → Nat) (cI : ClassId) (cJ : ClassId) (cZ : ClassId) (ln : Int32) (fz : Nat) (sx : Bool) (mo : Int32) (sn : Nat) (bw : Int32) (tkv : Nat → Int64) (opv : Nat → Int64) (shv : Nat → Int64) (ldv : Nat → Int32) (wyv : Nat → Int64) (bdv : Nat → Bool) (ct : Nat) (dA : Nat) (sta : Nat) (stc : Int64) (fev : Nat → Nat) (dl : Nat) (dnv : Nat → Int64) (rov : Nat → Nat) (a : Nat) (t : Int64) (b : Nat) (ha : a ≤ 20) (hb : b ≤ 20) : gz_M l yX1_goodLeg cX1_goodLeg 8 (some .long) ({ frames := 2, cells := 0, slots := 0, locals := 46 } : Room) D [(cI, .int), (cJ, .long), (cZ, .boolean)] [.ref nt, .int (nI a), .long t, .int (nI b)] (wC xo nt es ro ad cI cJ cZ ln fz sx mo sn bw tkv opv shv ldv wyv bdv ct dA dA sta stc fev dl dnv rov) (some (.long (f1_goodLeg tkv opv shv wyv bdv a t b))) (wC xo nt es ro ad cI cJ cZ ln fz sx mo sn bw tkv opv shv ldv wyv bdv ct dA dA sta stc fev dl dnv rov) 0 0 := by
  refine gz_met l (by decide) (Nat.le_of_ble_eq_true rfl) [(0, .ref nt), (1, .int (nI a)), (2, .long t), (4, .int (nI b))] rfl ?_
  intro sz p e s m args below meth c C hr hk hnm
  have C : gz_C p s m args c cX1_goodLeg 8 RX1 D [(cI, .int), (cJ, .long), (cZ, .boolean)] (va_A (wC xo nt es ro ad cI cJ cZ ln fz sx mo sn bw tkv opv shv ldv wyv bdv ct dA dA sta stc fev dl dnv rov) sz) := C
  refine gz_iload_n C 1 dX1_goodLeg_0 rfl ?_
  refine gz_iload C 3 dX1_goodLeg_1 rfl ?_
  refine gz_callS (wr := []) (n := 2) (ws2 := (wC xo nt es ro ad cI cJ cZ ln fz sx mo sn bw tkv opv shv ldv wyv bdv ct dA dA sta stc fev dl dnv rov)) (st2 := [.int (nI (a * 21 + b))]) (cells2 := 0) (slots2 := 0) C (kX1_between l D xo nt es ro ad cI cJ cZ ln fz sx mo sn bw tkv opv shv ldv wyv bdv ct dA sta stc fev dl dnv rov a b ) (WB_S wk_130 wk_131 wk_2 wk_132) (by decide +kernel) ⟨⟨rfl, rfl⟩, Nat.le_of_ble_eq_true rfl, Nat.le_of_ble_eq_true rfl⟩ [0, 1, 2, 3, 4, 5, 6, 7, 8, 9, 10, 11] [] [0, 1, 2] rfl rfl rfl (by decide) rfl rfl rfl (Nat.le_of_ble_eq_true rfl) dX1_goodLeg_3 ⟨Nat.zero_le _, Nat.zero_le _⟩ rfl rfl rfl ?_
  refine gz_istore (lv2 := [(5, .int (nI (a * 21 + b))), (0, .ref nt), (1, .int (nI a)), (2, .long t), (4, .int (nI b))]) C dX1_goodLeg_6 (by decide) rfl ?_
  refine gz_lload_n C 3 dX1_goodLeg_8 rfl ?_
  refine gz_ldc2 (v := 1000000000000000) C wk_26 dX1_goodLeg_9 ?_
  refine gz_lcmp_eq C 26 dX1_goodLeg_12 dX1_goodLeg_13 (by decide) (fun h_1 => ?_) (fun h_1 => ?_)
  · skip
    refine gz_ldc2 (v := 1000000000000000) C wk_26 dX1_goodLeg_26 ?_
    exact gz_lret C hr hk (by first | rfl | (simp only [f1_goodLeg, if_pos h_1]) | (simp only [f1_goodLeg, if_pos h_1]; rfl)) rfl (Nat.le_refl _) (Nat.le_refl _) dX1_goodLeg_29
  · have g_1 : ¬ (t = 1000000000000000) := h_1
    refine gz_aload_n C 1 dX1_goodLeg_16 rfl ?_
    refine gz_get (ci := 2) C iwX1 1 rfl rfl 7 (by decide) wk_36 rfl rfl dX1_goodLeg_17 ?_
    refine gz_iload C 0 dX1_goodLeg_20 rfl ?_
    refine gz_zald C 7 2 rfl rfl (by omega) (by decide) dX1_goodLeg_22 ?_
    refine gz_bif_eq C 30 dX1_goodLeg_23 (by decide) (fun h_2 => ?_) (fun h_2 => ?_)
    · have g_2 : ¬ ((bdv (a * 21 + b)) = true) := (by rw [h_2]; decide)
      refine gz_lload_n C 3 dX1_goodLeg_30 rfl ?_
      refine gz_aload_n C 1 dX1_goodLeg_31 rfl ?_
      refine gz_get (ci := 2) C iwX1 1 rfl rfl 6 (by decide) wk_35 rfl rfl dX1_goodLeg_32 ?_
      refine gz_iload C 0 dX1_goodLeg_35 rfl ?_
      refine gz_lald C 6 1 rfl rfl (by omega) (by decide) dX1_goodLeg_37 ?_
      refine gz_ladd (v := t + (wyv (a * 21 + b))) C dX1_goodLeg_38 rfl ?_
      refine gz_lstore (lv2 := [(6, .long (t + (wyv (a * 21 + b)))), (5, .int (nI (a * 21 + b))), (0, .ref nt), (1, .int (nI a)), (2, .long t), (4, .int (nI b))]) C dX1_goodLeg_39 (by decide) rfl ?_
      refine gz_lload C 0 dX1_goodLeg_41 rfl ?_
      refine gz_aload_n C 2 dX1_goodLeg_43 rfl ?_
      refine gz_get (ci := 2) C iwX1 1 rfl rfl 4 (by decide) wk_33 rfl rfl dX1_goodLeg_44 ?_
      refine gz_iload C 5 dX1_goodLeg_47 rfl ?_
      refine gz_lald C 4 1 rfl rfl (by omega) (by decide) dX1_goodLeg_49 ?_
      refine gz_J (ws2 := (wC xo nt es ro ad cI cJ cZ ln fz sx mo sn bw tkv opv shv ldv wyv bdv ct dA dA sta stc fev dl dnv rov)) (lv2 := [(6, .long (t + (wyv (a * 21 + b)))), (5, .int (nI (a * 21 + b))), (0, .ref nt), (1, .int (nI a)), (2, .long t), (4, .int (nI b))]) (st2 := [.long ((if (t + (wyv (a * 21 + b))) ≤ (shv b) then f1_doneAt tkv opv b (t + (wyv (a * 21 + b))) else 1000000000000000))]) (pc2 := 68) ?_ (fun J_3 => ?_)
      rotate_left
      · refine gz_lcmp_le C 60 dX1_goodLeg_50 dX1_goodLeg_51 (by decide) (fun h_3 => ?_) (fun h_3 => ?_)
        · skip
          refine gz_aload_n C 2 dX1_goodLeg_60 rfl ?_
          refine gz_iload C 5 dX1_goodLeg_61 rfl ?_
          refine gz_lload C 0 dX1_goodLeg_63 rfl ?_
          refine gz_callV (wr := []) (n := 2) (ws2 := (wC xo nt es ro ad cI cJ cZ ln fz sx mo sn bw tkv opv shv ldv wyv bdv ct dA dA sta stc fev dl dnv rov)) (st2 := [.long (f1_doneAt tkv opv b (t + (wyv (a * 21 + b))))]) (cells2 := 0) (slots2 := 0) (ci := 2) C (kX1_doneAt l D xo nt es ro ad cI cJ cZ ln fz sx mo sn bw tkv opv shv ldv wyv bdv ct dA sta stc fev dl dnv rov b (t + (wyv (a * 21 + b))) (by first | assumption | omega)) (WB_V wk_168 wk_169 wk_170 wk_2 wk_171) (by decide +kernel) ⟨⟨rfl, rfl⟩, Nat.le_of_ble_eq_true rfl, Nat.le_of_ble_eq_true rfl⟩ [0, 1, 2, 3, 4, 5, 6, 7, 8, 9, 10, 11] [] [0, 1, 2] rfl rfl rfl (by decide) rfl 1 rfl rfl rfl rfl (Nat.le_of_ble_eq_true rfl) dX1_goodLeg_65 ⟨Nat.zero_le _, Nat.zero_le _⟩ rfl rfl rfl ?_
          simp only [if_pos h_3] at J_3 ⊢
          exact gz_lv [0, 1, 2, 3, 4, 5] rfl J_3
        · have g_3 : ¬ ((t + (wyv (a * 21 + b))) ≤ (shv b)) := h_3
          refine gz_ldc2 (v := 1000000000000000) C wk_26 dX1_goodLeg_54 ?_
          refine gz_goto C 68 dX1_goodLeg_57 (by decide) ?_
          simp only [if_neg g_3] at J_3 ⊢
          exact gz_lv [0, 1, 2, 3, 4, 5] rfl J_3
      exact gz_lret C hr hk (by first | rfl | (simp only [f1_goodLeg, if_neg g_1, if_neg g_2]) | (simp only [f1_goodLeg, if_neg g_1, if_neg g_2]; rfl)) rfl (Nat.le_refl _) (Nat.le_refl _) dX1_goodLeg_68
    · skip
      refine gz_ldc2 (v := 1000000000000000) C wk_26 dX1_goodLeg_26 ?_
      exact gz_lret C hr hk (by first | rfl | (simp only [f1_goodLeg, if_neg g_1, if_pos h_2]) | (simp only [f1_goodLeg, if_neg g_1, if_pos h_2]; rfl)) rfl (Nat.le_refl _) (Nat.le_refl _) dX1_goodLeg_29


def f1_cost_lp (tkv : Nat → Int64) (opv : Nat → Int64) (shv : Nat → Int64) (wyv : Nat → Int64) (bdv : Nat → Bool) (rov : Nat → Nat) : Nat → Int64 → Int64 → Nat → Nat → Int64 × Int64 × Nat × Nat
  | 0, fa, ck, he, k => (fa, ck, he, k)
  | n + 1, fa, ck, he, k => f1_cost_lp tkv opv shv wyv bdv rov n ((fa + ((if (bdv (he * 21 + (rov k))) = true then 1 else 0))) + ((if (ck + (wyv (he * 21 + (rov k)))) ≤ (shv (rov k)) then 0 else 1))) (f1_doneAt tkv opv (rov k) (ck + (wyv (he * 21 + (rov k))))) (rov k) (k + 1)
set_option maxRecDepth 100000 in
set_option maxHeartbeats 4000000 in
theorem lX1_cost_lp {p : Program} {l : Launch} {e : Env} {R : Room} {s : State} {m : MethodId} {args : Array Value} {below : List Frame} {meth : Method} {c : Code} {cells slots : Nat} {Q : State → Prop} {A : Nat → Prop} {D : va_G} (xo : Nat) (nt : Nat) (es : Nat) (ro : Nat) (ad : Nat → Nat) (cI : ClassId) (cJ : ClassId) (cZ : ClassId) (ln : Int32) (fz : Nat) (sx : Bool) (mo : Int32) (sn : Nat) (bw : Int32) (tkv : Nat → Int64) (opv : Nat → Int64) (shv : Nat → Int64) (ldv : Nat → Int32) (wyv : Nat → Int64) (bdv : Nat → Bool) (ct : Nat) (dA : Nat) (sta : Nat) (stc : Int64) (fev : Nat → Nat) (dl : Nat) (dnv : Nat → Int64) (rov : Nat → Nat) (co : Nat) (hc : co ≤ 20) (hro : ∀ k, k < co → rov k ≤ 20) (hR : 2 ≤ R.frames ∧ 46 ≤ R.locals) (hce : cells ≤ R.cells ∧ slots ≤ R.slots) (C : gz_C p s m args c cX1_cost 11 RX1 D [(cI, .int), (cJ, .long), (cZ, .boolean)] A) : ∀ (n : Nat) (fa : Int64) (ck : Int64) (he : Nat) (k : Nat), (k + n = co) → (he ≤ 20) → ((((f1_cost_lp tkv opv shv wyv bdv rov n fa ck he k).2.2.2) + 0 = co) → (((f1_cost_lp tkv opv shv wyv bdv rov n fa ck he k).2.2.1) ≤ 20) → GZ p l e R s m args below meth c 11 D A cells slots Q (wC xo nt es ro ad cI cJ cZ ln fz sx mo sn bw tkv opv shv ldv wyv bdv ct dA dA sta stc fev dl dnv rov) [(0, .ref nt), (1, .ref ro), (2, .int (nI co)), (3, .long ((f1_cost_lp tkv opv shv wyv bdv rov n fa ck he k).1)), (5, .long ((f1_cost_lp tkv opv shv wyv bdv rov n fa ck he k).2.1)), (7, .int (nI ((f1_cost_lp tkv opv shv wyv bdv rov n fa ck he k).2.2.1))), (8, .int (nI ((f1_cost_lp tkv opv shv wyv bdv rov n fa ck he k).2.2.2)))] [] 109) → GZ p l e R s m args below meth c 11 D A cells slots Q (wC xo nt es ro ad cI cJ cZ ln fz sx mo sn bw tkv opv shv ldv wyv bdv ct dA dA sta stc fev dl dnv rov) [(0, .ref nt), (1, .ref ro), (2, .int (nI co)), (3, .long fa), (5, .long ck), (7, .int (nI he)), (8, .int (nI k))] [] 17 := by
  intro n
  induction n with
  | zero =>
    intro fa ck he k hme hhe hx
    refine gz_iload C 6 dX1_cost_17 rfl ?_
    refine gz_iload_n C 2 dX1_cost_19 rfl ?_
    refine gz_ncmp_ge C 109 (by omega) (by omega) dX1_cost_20 (by decide) (fun h_1 => ?_) (fun h_1 => ?_)
    · skip
      exact gz_lv [0, 1, 2, 3, 4, 5, 6] rfl (hx hme hhe)
    · have g_1 : ¬ (co ≤ k) := (Nat.not_le.mpr h_1)
      exfalso; omega
  | succ n ih =>
    intro fa ck he k hme hhe hx
    refine gz_iload C 6 dX1_cost_17 rfl ?_
    refine gz_iload_n C 2 dX1_cost_19 rfl ?_
    refine gz_ncmp_ge C 109 (by omega) (by omega) dX1_cost_20 (by decide) (fun h_1 => ?_) (fun h_1 => ?_)
    · skip
      exfalso; omega
    · have g_1 : ¬ (co ≤ k) := (Nat.not_le.mpr h_1)
      have hq := hro k (by omega)
      refine gz_aload_n C 1 dX1_cost_23 rfl ?_
      refine gz_iload C 6 dX1_cost_24 rfl ?_
      refine gz_iald C 11 0 rfl rfl (by omega) (by decide) dX1_cost_26 ?_
      refine gz_istore (lv2 := [(9, .int (nI (rov k))), (0, .ref nt), (1, .ref ro), (2, .int (nI co)), (3, .long fa), (5, .long ck), (7, .int (nI he)), (8, .int (nI k))]) C dX1_cost_27 (by decide) rfl ?_
      refine gz_iload C 6 dX1_cost_29 rfl ?_
      refine gz_iload C 0 dX1_cost_31 rfl ?_
      refine gz_callS (wr := []) (n := 2) (ws2 := (wC xo nt es ro ad cI cJ cZ ln fz sx mo sn bw tkv opv shv ldv wyv bdv ct dA dA sta stc fev dl dnv rov)) (st2 := [.int (nI (he * 21 + (rov k)))]) (cells2 := cells) (slots2 := slots) C (kX1_between l D xo nt es ro ad cI cJ cZ ln fz sx mo sn bw tkv opv shv ldv wyv bdv ct dA sta stc fev dl dnv rov he (rov k) ) (WB_S wk_130 wk_131 wk_2 wk_132) (by decide +kernel) ⟨⟨rfl, rfl⟩, Nat.le_trans (by decide) hR.1, Nat.le_trans (by decide) hR.2⟩ [0, 1, 2, 3, 4, 5, 6, 7, 8, 9, 10, 11] [] [0, 1, 2] rfl rfl rfl (by decide) rfl rfl rfl (Nat.le_of_ble_eq_true rfl) dX1_cost_33 hce rfl rfl rfl ?_
      refine gz_istore (lv2 := [(10, .int (nI (he * 21 + (rov k)))), (9, .int (nI (rov k))), (0, .ref nt), (1, .ref ro), (2, .int (nI co)), (3, .long fa), (5, .long ck), (7, .int (nI he)), (8, .int (nI k))]) C dX1_cost_36 (by decide) rfl ?_
      refine gz_lload C 6 dX1_cost_38 rfl ?_
      refine gz_aload_n C 2 dX1_cost_40 rfl ?_
      refine gz_get (ci := 2) C iwX1 1 rfl rfl 6 (by decide) wk_35 rfl rfl dX1_cost_41 ?_
      refine gz_iload C 0 dX1_cost_44 rfl ?_
      refine gz_lald C 6 1 rfl rfl (by omega) (by decide) dX1_cost_46 ?_
      refine gz_ladd (v := ck + (wyv (he * 21 + (rov k)))) C dX1_cost_47 rfl ?_
      refine gz_lstore (lv2 := [(5, .long (ck + (wyv (he * 21 + (rov k))))), (10, .int (nI (he * 21 + (rov k)))), (9, .int (nI (rov k))), (0, .ref nt), (1, .ref ro), (2, .int (nI co)), (3, .long fa), (7, .int (nI he)), (8, .int (nI k))]) C dX1_cost_48 (by decide) rfl ?_
      refine gz_lload_n C 6 dX1_cost_50 rfl ?_
      refine gz_aload_n C 3 dX1_cost_51 rfl ?_
      refine gz_get (ci := 2) C iwX1 1 rfl rfl 7 (by decide) wk_36 rfl rfl dX1_cost_52 ?_
      refine gz_iload C 1 dX1_cost_55 rfl ?_
      refine gz_zald C 7 2 rfl rfl (by omega) (by decide) dX1_cost_57 ?_
      refine gz_J (ws2 := (wC xo nt es ro ad cI cJ cZ ln fz sx mo sn bw tkv opv shv ldv wyv bdv ct dA dA sta stc fev dl dnv rov)) (lv2 := [(5, .long (ck + (wyv (he * 21 + (rov k))))), (10, .int (nI (he * 21 + (rov k)))), (9, .int (nI (rov k))), (0, .ref nt), (1, .ref ro), (2, .int (nI co)), (3, .long fa), (7, .int (nI he)), (8, .int (nI k))]) (st2 := [.long ((if (bdv (he * 21 + (rov k))) = true then 1 else 0)), .long fa]) (pc2 := 66) ?_ (fun J_2 => ?_)
      rotate_left
      · refine gz_bif_eq C 65 dX1_cost_58 (by decide) (fun h_2 => ?_) (fun h_2 => ?_)
        · have g_2 : ¬ ((bdv (he * 21 + (rov k))) = true) := (by rw [h_2]; decide)
          refine gz_lconst (v := 0) C dX1_cost_65 (by decide) ?_
          simp only [if_neg g_2] at J_2 ⊢
          exact gz_lv [0, 1, 2, 3, 4, 5, 6, 7, 8] rfl J_2
        · skip
          refine gz_lconst (v := 1) C dX1_cost_61 (by decide) ?_
          refine gz_goto C 66 dX1_cost_62 (by decide) ?_
          simp only [if_pos h_2] at J_2 ⊢
          exact gz_lv [0, 1, 2, 3, 4, 5, 6, 7, 8] rfl J_2
      refine gz_ladd (v := fa + ((if (bdv (he * 21 + (rov k))) = true then 1 else 0))) C dX1_cost_66 rfl ?_
      refine gz_lstore_n (lv2 := [(3, .long (fa + ((if (bdv (he * 21 + (rov k))) = true then 1 else 0)))), (5, .long (ck + (wyv (he * 21 + (rov k))))), (10, .int (nI (he * 21 + (rov k)))), (9, .int (nI (rov k))), (0, .ref nt), (1, .ref ro), (2, .int (nI co)), (7, .int (nI he)), (8, .int (nI k))]) C dX1_cost_67 (by decide) rfl ?_
      refine gz_lload_n C 0 dX1_cost_68 rfl ?_
      refine gz_lload C 1 dX1_cost_69 rfl ?_
      refine gz_aload_n C 4 dX1_cost_71 rfl ?_
      refine gz_get (ci := 2) C iwX1 1 rfl rfl 4 (by decide) wk_33 rfl rfl dX1_cost_72 ?_
      refine gz_iload C 3 dX1_cost_75 rfl ?_
      refine gz_lald C 4 1 rfl rfl (by omega) (by decide) dX1_cost_77 ?_
      refine gz_J (ws2 := (wC xo nt es ro ad cI cJ cZ ln fz sx mo sn bw tkv opv shv ldv wyv bdv ct dA dA sta stc fev dl dnv rov)) (lv2 := [(3, .long (fa + ((if (bdv (he * 21 + (rov k))) = true then 1 else 0)))), (5, .long (ck + (wyv (he * 21 + (rov k))))), (10, .int (nI (he * 21 + (rov k)))), (9, .int (nI (rov k))), (0, .ref nt), (1, .ref ro), (2, .int (nI co)), (7, .int (nI he)), (8, .int (nI k))]) (st2 := [.long ((if (ck + (wyv (he * 21 + (rov k)))) ≤ (shv (rov k)) then 0 else 1)), .long (fa + ((if (bdv (he * 21 + (rov k))) = true then 1 else 0)))]) (pc2 := 87) ?_ (fun J_3 => ?_)
      rotate_left
      · refine gz_lcmp_le C 86 dX1_cost_78 dX1_cost_79 (by decide) (fun h_3 => ?_) (fun h_3 => ?_)
        · skip
          refine gz_lconst (v := 0) C dX1_cost_86 (by decide) ?_
          simp only [if_pos h_3] at J_3 ⊢
          exact gz_lv [0, 1, 2, 3, 4, 5, 6, 7, 8] rfl J_3
        · have g_3 : ¬ ((ck + (wyv (he * 21 + (rov k)))) ≤ (shv (rov k))) := h_3
          refine gz_lconst (v := 1) C dX1_cost_82 (by decide) ?_
          refine gz_goto C 87 dX1_cost_83 (by decide) ?_
          simp only [if_neg g_3] at J_3 ⊢
          exact gz_lv [0, 1, 2, 3, 4, 5, 6, 7, 8] rfl J_3
      refine gz_ladd (v := (fa + ((if (bdv (he * 21 + (rov k))) = true then 1 else 0))) + ((if (ck + (wyv (he * 21 + (rov k)))) ≤ (shv (rov k)) then 0 else 1))) C dX1_cost_87 rfl ?_
      refine gz_lstore_n (lv2 := [(3, .long ((fa + ((if (bdv (he * 21 + (rov k))) = true then 1 else 0))) + ((if (ck + (wyv (he * 21 + (rov k)))) ≤ (shv (rov k)) then 0 else 1)))), (5, .long (ck + (wyv (he * 21 + (rov k))))), (10, .int (nI (he * 21 + (rov k)))), (9, .int (nI (rov k))), (0, .ref nt), (1, .ref ro), (2, .int (nI co)), (7, .int (nI he)), (8, .int (nI k))]) C dX1_cost_88 (by decide) rfl ?_
      refine gz_aload_n C 4 dX1_cost_89 rfl ?_
      refine gz_iload C 3 dX1_cost_90 rfl ?_
      refine gz_lload C 1 dX1_cost_92 rfl ?_
      refine gz_callV (wr := []) (n := 2) (ws2 := (wC xo nt es ro ad cI cJ cZ ln fz sx mo sn bw tkv opv shv ldv wyv bdv ct dA dA sta stc fev dl dnv rov)) (st2 := [.long (f1_doneAt tkv opv (rov k) (ck + (wyv (he * 21 + (rov k)))))]) (cells2 := cells) (slots2 := slots) (ci := 2) C (kX1_doneAt l D xo nt es ro ad cI cJ cZ ln fz sx mo sn bw tkv opv shv ldv wyv bdv ct dA sta stc fev dl dnv rov (rov k) (ck + (wyv (he * 21 + (rov k)))) (by first | assumption | omega)) (WB_V wk_168 wk_169 wk_170 wk_2 wk_171) (by decide +kernel) ⟨⟨rfl, rfl⟩, Nat.le_trans (by decide) hR.1, Nat.le_trans (by decide) hR.2⟩ [0, 1, 2, 3, 4, 5, 6, 7, 8, 9, 10, 11] [] [0, 1, 2] rfl rfl rfl (by decide) rfl 1 rfl rfl rfl rfl (Nat.le_of_ble_eq_true rfl) dX1_cost_94 hce rfl rfl rfl ?_
      refine gz_lstore (lv2 := [(5, .long (f1_doneAt tkv opv (rov k) (ck + (wyv (he * 21 + (rov k)))))), (3, .long ((fa + ((if (bdv (he * 21 + (rov k))) = true then 1 else 0))) + ((if (ck + (wyv (he * 21 + (rov k)))) ≤ (shv (rov k)) then 0 else 1)))), (10, .int (nI (he * 21 + (rov k)))), (9, .int (nI (rov k))), (0, .ref nt), (1, .ref ro), (2, .int (nI co)), (7, .int (nI he)), (8, .int (nI k))]) C dX1_cost_97 (by decide) rfl ?_
      refine gz_iload C 3 dX1_cost_99 rfl ?_
      refine gz_istore (lv2 := [(7, .int (nI (rov k))), (5, .long (f1_doneAt tkv opv (rov k) (ck + (wyv (he * 21 + (rov k)))))), (3, .long ((fa + ((if (bdv (he * 21 + (rov k))) = true then 1 else 0))) + ((if (ck + (wyv (he * 21 + (rov k)))) ≤ (shv (rov k)) then 0 else 1)))), (10, .int (nI (he * 21 + (rov k)))), (9, .int (nI (rov k))), (0, .ref nt), (1, .ref ro), (2, .int (nI co)), (8, .int (nI k))]) C dX1_cost_101 (by decide) rfl ?_
      refine gz_iinc (v := nI (k + 1)) (lv2 := [(8, .int (nI (k + 1))), (7, .int (nI (rov k))), (5, .long (f1_doneAt tkv opv (rov k) (ck + (wyv (he * 21 + (rov k)))))), (3, .long ((fa + ((if (bdv (he * 21 + (rov k))) = true then 1 else 0))) + ((if (ck + (wyv (he * 21 + (rov k)))) ≤ (shv (rov k)) then 0 else 1)))), (10, .int (nI (he * 21 + (rov k)))), (9, .int (nI (rov k))), (0, .ref nt), (1, .ref ro), (2, .int (nI co))]) (k := 8) C dX1_cost_103 rfl (nI_add _ 1) (by decide) rfl ?_
      refine gz_goto C 17 dX1_cost_106 (by decide) ?_
      refine gz_lv [6, 7, 8, 3, 2, 1, 0] rfl ?_
      simp only [f1_cost_lp, if_neg g_1] at hx
      exact ih ((fa + ((if (bdv (he * 21 + (rov k))) = true then 1 else 0))) + ((if (ck + (wyv (he * 21 + (rov k)))) ≤ (shv (rov k)) then 0 else 1))) (f1_doneAt tkv opv (rov k) (ck + (wyv (he * 21 + (rov k))))) (rov k) (k + 1) (by omega) (by omega) hx

def f1_cost (tkv : Nat → Int64) (opv : Nat → Int64) (shv : Nat → Int64) (wyv : Nat → Int64) (bdv : Nat → Bool) (rov : Nat → Nat) (co : Nat) : Int64 := (if co = 0 then 0 else (((((f1_cost_lp tkv opv shv wyv bdv rov co 0 0 0 0).1) + ((if (bdv (((f1_cost_lp tkv opv shv wyv bdv rov co 0 0 0 0).2.2.1) * 21 + 0)) = true then 1 else 0))) * 1000000000) + ((f1_cost_lp tkv opv shv wyv bdv rov co 0 0 0 0).2.1)) + (wyv (((f1_cost_lp tkv opv shv wyv bdv rov co 0 0 0 0).2.2.1) * 21 + 0)))
set_option maxRecDepth 100000 in
set_option maxHeartbeats 4000000 in
theorem kX1_cost (l : Launch) (D : va_G) (xo : Nat) (nt : Nat) (es : Nat) (ro : Nat) (ad : Nat → Nat) (cI : ClassId) (cJ : ClassId) (cZ : ClassId) (ln : Int32) (fz : Nat) (sx : Bool) (mo : Int32) (sn : Nat) (bw : Int32) (tkv : Nat → Int64) (opv : Nat → Int64) (shv : Nat → Int64) (ldv : Nat → Int32) (wyv : Nat → Int64) (bdv : Nat → Bool) (ct : Nat) (dA : Nat) (sta : Nat) (stc : Int64) (fev : Nat → Nat) (dl : Nat) (dnv : Nat → Int64) (rov : Nat → Nat) (co : Nat) (hc : co ≤ 20) (hro : ∀ k, k < co → rov k ≤ 20) : gz_M l yX1_cost cX1_cost 11 (some .long) ({ frames := 2, cells := 0, slots := 0, locals := 46 } : Room) D [(cI, .int), (cJ, .long), (cZ, .boolean)] [.ref nt, .ref ro, .int (nI co)] (wC xo nt es ro ad cI cJ cZ ln fz sx mo sn bw tkv opv shv ldv wyv bdv ct dA dA sta stc fev dl dnv rov) (some (.long (f1_cost tkv opv shv wyv bdv rov co))) (wC xo nt es ro ad cI cJ cZ ln fz sx mo sn bw tkv opv shv ldv wyv bdv ct dA dA sta stc fev dl dnv rov) 0 0 := by
  refine gz_met l (by decide) (Nat.le_of_ble_eq_true rfl) [(0, .ref nt), (1, .ref ro), (2, .int (nI co))] rfl ?_
  intro sz p e s m args below meth c C hr hk hnm
  have C : gz_C p s m args c cX1_cost 11 RX1 D [(cI, .int), (cJ, .long), (cZ, .boolean)] (va_A (wC xo nt es ro ad cI cJ cZ ln fz sx mo sn bw tkv opv shv ldv wyv bdv ct dA dA sta stc fev dl dnv rov) sz) := C
  refine gz_iload_n C 2 dX1_cost_0 rfl ?_
  refine gz_nif_ne C 6 (by omega) dX1_cost_1 (by decide) (fun h_1 => ?_) (fun h_1 => ?_)
  · have g_1 : ¬ (co = 0) := h_1
    refine gz_lconst (v := 0) C dX1_cost_6 (by decide) ?_
    refine gz_lstore_n (lv2 := [(3, .long 0), (0, .ref nt), (1, .ref ro), (2, .int (nI co))]) C dX1_cost_7 (by decide) rfl ?_
    refine gz_lconst (v := 0) C dX1_cost_8 (by decide) ?_
    refine gz_lstore (lv2 := [(5, .long 0), (3, .long 0), (0, .ref nt), (1, .ref ro), (2, .int (nI co))]) C dX1_cost_9 (by decide) rfl ?_
    refine gz_iconst (v := nI 0) C dX1_cost_11 (by decide) ?_
    refine gz_istore (lv2 := [(7, .int (nI 0)), (5, .long 0), (3, .long 0), (0, .ref nt), (1, .ref ro), (2, .int (nI co))]) C dX1_cost_12 (by decide) rfl ?_
    refine gz_iconst (v := nI 0) C dX1_cost_14 (by decide) ?_
    refine gz_istore (lv2 := [(8, .int (nI 0)), (7, .int (nI 0)), (5, .long 0), (3, .long 0), (0, .ref nt), (1, .ref ro), (2, .int (nI co))]) C dX1_cost_15 (by decide) rfl ?_
    refine gz_lv (lv2 := [(0, .ref nt), (1, .ref ro), (2, .int (nI co)), (3, .long 0), (5, .long 0), (7, .int (nI 0)), (8, .int (nI 0))]) [4, 5, 6, 3, 2, 1, 0] rfl ?_
    refine lX1_cost_lp xo nt es ro ad cI cJ cZ ln fz sx mo sn bw tkv opv shv ldv wyv bdv ct dA sta stc fev dl dnv rov co (by first | assumption | omega) (by first | assumption | omega) ⟨Nat.le_of_ble_eq_true rfl, Nat.le_of_ble_eq_true rfl⟩ ⟨Nat.zero_le _, Nat.zero_le _⟩ C co 0 0 0 0 (by omega) (by first | assumption | omega) ?_
    intro zme_lp zhhe_lp
    refine gz_iload C 5 dX1_cost_109 rfl ?_
    refine gz_iconst (v := nI 0) C dX1_cost_111 (by decide) ?_
    refine gz_callS (wr := []) (n := 2) (ws2 := (wC xo nt es ro ad cI cJ cZ ln fz sx mo sn bw tkv opv shv ldv wyv bdv ct dA dA sta stc fev dl dnv rov)) (st2 := [.int (nI (((f1_cost_lp tkv opv shv wyv bdv rov co 0 0 0 0).2.2.1) * 21 + 0))]) (cells2 := 0) (slots2 := 0) C (kX1_between l D xo nt es ro ad cI cJ cZ ln fz sx mo sn bw tkv opv shv ldv wyv bdv ct dA sta stc fev dl dnv rov ((f1_cost_lp tkv opv shv wyv bdv rov co 0 0 0 0).2.2.1) 0 ) (WB_S wk_130 wk_131 wk_2 wk_132) (by decide +kernel) ⟨⟨rfl, rfl⟩, Nat.le_of_ble_eq_true rfl, Nat.le_of_ble_eq_true rfl⟩ [0, 1, 2, 3, 4, 5, 6, 7, 8, 9, 10, 11] [] [0, 1, 2] rfl rfl rfl (by decide) rfl rfl rfl (Nat.le_of_ble_eq_true rfl) dX1_cost_112 ⟨Nat.zero_le _, Nat.zero_le _⟩ rfl rfl rfl ?_
    refine gz_istore (lv2 := [(8, .int (nI (((f1_cost_lp tkv opv shv wyv bdv rov co 0 0 0 0).2.2.1) * 21 + 0))), (0, .ref nt), (1, .ref ro), (2, .int (nI co)), (3, .long ((f1_cost_lp tkv opv shv wyv bdv rov co 0 0 0 0).1)), (5, .long ((f1_cost_lp tkv opv shv wyv bdv rov co 0 0 0 0).2.1)), (7, .int (nI ((f1_cost_lp tkv opv shv wyv bdv rov co 0 0 0 0).2.2.1)))]) C dX1_cost_115 (by decide) rfl ?_
    refine gz_lload_n C 4 dX1_cost_117 rfl ?_
    refine gz_aload_n C 1 dX1_cost_118 rfl ?_
    refine gz_get (ci := 2) C iwX1 1 rfl rfl 7 (by decide) wk_36 rfl rfl dX1_cost_119 ?_
    refine gz_iload C 0 dX1_cost_122 rfl ?_
    refine gz_zald C 7 2 rfl rfl (by omega) (by decide) dX1_cost_124 ?_
    refine gz_J (ws2 := (wC xo nt es ro ad cI cJ cZ ln fz sx mo sn bw tkv opv shv ldv wyv bdv ct dA dA sta stc fev dl dnv rov)) (lv2 := [(8, .int (nI (((f1_cost_lp tkv opv shv wyv bdv rov co 0 0 0 0).2.2.1) * 21 + 0))), (0, .ref nt), (1, .ref ro), (2, .int (nI co)), (3, .long ((f1_cost_lp tkv opv shv wyv bdv rov co 0 0 0 0).1)), (5, .long ((f1_cost_lp tkv opv shv wyv bdv rov co 0 0 0 0).2.1)), (7, .int (nI ((f1_cost_lp tkv opv shv wyv bdv rov co 0 0 0 0).2.2.1)))]) (st2 := [.long ((if (bdv (((f1_cost_lp tkv opv shv wyv bdv rov co 0 0 0 0).2.2.1) * 21 + 0)) = true then 1 else 0)), .long ((f1_cost_lp tkv opv shv wyv bdv rov co 0 0 0 0).1)]) (pc2 := 133) ?_ (fun J_2 => ?_)
    rotate_left
    · refine gz_bif_eq C 132 dX1_cost_125 (by decide) (fun h_2 => ?_) (fun h_2 => ?_)
      · have g_2 : ¬ ((bdv (((f1_cost_lp tkv opv shv wyv bdv rov co 0 0 0 0).2.2.1) * 21 + 0)) = true) := (by rw [h_2]; decide)
        refine gz_lconst (v := 0) C dX1_cost_132 (by decide) ?_
        simp only [if_neg g_2] at J_2 ⊢
        exact gz_lv [0, 1, 2, 3, 4, 5, 6] rfl J_2
      · skip
        refine gz_lconst (v := 1) C dX1_cost_128 (by decide) ?_
        refine gz_goto C 133 dX1_cost_129 (by decide) ?_
        simp only [if_pos h_2] at J_2 ⊢
        exact gz_lv [0, 1, 2, 3, 4, 5, 6] rfl J_2
    refine gz_ladd (v := ((f1_cost_lp tkv opv shv wyv bdv rov co 0 0 0 0).1) + ((if (bdv (((f1_cost_lp tkv opv shv wyv bdv rov co 0 0 0 0).2.2.1) * 21 + 0)) = true then 1 else 0))) C dX1_cost_133 rfl ?_
    refine gz_lstore_n (lv2 := [(3, .long (((f1_cost_lp tkv opv shv wyv bdv rov co 0 0 0 0).1) + ((if (bdv (((f1_cost_lp tkv opv shv wyv bdv rov co 0 0 0 0).2.2.1) * 21 + 0)) = true then 1 else 0)))), (8, .int (nI (((f1_cost_lp tkv opv shv wyv bdv rov co 0 0 0 0).2.2.1) * 21 + 0))), (0, .ref nt), (1, .ref ro), (2, .int (nI co)), (5, .long ((f1_cost_lp tkv opv shv wyv bdv rov co 0 0 0 0).2.1)), (7, .int (nI ((f1_cost_lp tkv opv shv wyv bdv rov co 0 0 0 0).2.2.1)))]) C dX1_cost_134 (by decide) rfl ?_
    refine gz_lload_n C 0 dX1_cost_135 rfl ?_
    refine gz_ldc2 (v := 1000000000) C wk_222 dX1_cost_136 ?_
    refine gz_lmul (v := (((f1_cost_lp tkv opv shv wyv bdv rov co 0 0 0 0).1) + ((if (bdv (((f1_cost_lp tkv opv shv wyv bdv rov co 0 0 0 0).2.2.1) * 21 + 0)) = true then 1 else 0))) * 1000000000) C dX1_cost_139 rfl ?_
    refine gz_lload C 5 dX1_cost_140 rfl ?_
    refine gz_ladd (v := ((((f1_cost_lp tkv opv shv wyv bdv rov co 0 0 0 0).1) + ((if (bdv (((f1_cost_lp tkv opv shv wyv bdv rov co 0 0 0 0).2.2.1) * 21 + 0)) = true then 1 else 0))) * 1000000000) + ((f1_cost_lp tkv opv shv wyv bdv rov co 0 0 0 0).2.1)) C dX1_cost_142 rfl ?_
    refine gz_aload_n C 2 dX1_cost_143 rfl ?_
    refine gz_get (ci := 2) C iwX1 1 rfl rfl 6 (by decide) wk_35 rfl rfl dX1_cost_144 ?_
    refine gz_iload C 1 dX1_cost_147 rfl ?_
    refine gz_lald C 6 1 rfl rfl (by omega) (by decide) dX1_cost_149 ?_
    refine gz_ladd (v := (((((f1_cost_lp tkv opv shv wyv bdv rov co 0 0 0 0).1) + ((if (bdv (((f1_cost_lp tkv opv shv wyv bdv rov co 0 0 0 0).2.2.1) * 21 + 0)) = true then 1 else 0))) * 1000000000) + ((f1_cost_lp tkv opv shv wyv bdv rov co 0 0 0 0).2.1)) + (wyv (((f1_cost_lp tkv opv shv wyv bdv rov co 0 0 0 0).2.2.1) * 21 + 0))) C dX1_cost_150 rfl ?_
    exact gz_lret C hr hk (by first | rfl | (simp only [f1_cost, if_neg g_1]) | (simp only [f1_cost, if_neg g_1]; rfl)) rfl (Nat.le_refl _) (Nat.le_refl _) dX1_cost_151
  · skip
    refine gz_lconst (v := 0) C dX1_cost_4 (by decide) ?_
    exact gz_lret C hr hk (by first | rfl | (simp only [f1_cost, if_pos h_1]) | (simp only [f1_cost, if_pos h_1]; rfl)) rfl (Nat.le_refl _) (Nat.le_refl _) dX1_cost_5

def f1_home (tkv : Nat → Int64) (opv : Nat → Int64) (shv : Nat → Int64) (wyv : Nat → Int64) (bdv : Nat → Bool) (rov : Nat → Nat) (co : Nat) : Int64 := (f1_cost tkv opv shv wyv bdv rov co) - (f1_cost tkv opv shv wyv bdv rov co) / 1000000000 * 1000000000
set_option maxRecDepth 100000 in
set_option maxHeartbeats 4000000 in
theorem kX1_home (l : Launch) (D : va_G) (xo : Nat) (nt : Nat) (es : Nat) (ro : Nat) (ad : Nat → Nat) (cI : ClassId) (cJ : ClassId) (cZ : ClassId) (ln : Int32) (fz : Nat) (sx : Bool) (mo : Int32) (sn : Nat) (bw : Int32) (tkv : Nat → Int64) (opv : Nat → Int64) (shv : Nat → Int64) (ldv : Nat → Int32) (wyv : Nat → Int64) (bdv : Nat → Bool) (ct : Nat) (dA : Nat) (sta : Nat) (stc : Int64) (fev : Nat → Nat) (dl : Nat) (dnv : Nat → Int64) (rov : Nat → Nat) (co : Nat) (hc : co ≤ 20) (hro : ∀ k, k < co → rov k ≤ 20) : gz_M l yX1_home cX1_home 3 (some .long) ({ frames := 3, cells := 0, slots := 0, locals := 76 } : Room) D [(cI, .int), (cJ, .long), (cZ, .boolean)] [.ref nt, .ref ro, .int (nI co)] (wC xo nt es ro ad cI cJ cZ ln fz sx mo sn bw tkv opv shv ldv wyv bdv ct dA dA sta stc fev dl dnv rov) (some (.long (f1_home tkv opv shv wyv bdv rov co))) (wC xo nt es ro ad cI cJ cZ ln fz sx mo sn bw tkv opv shv ldv wyv bdv ct dA dA sta stc fev dl dnv rov) 0 0 := by
  refine gz_met l (by decide) (Nat.le_of_ble_eq_true rfl) [(0, .ref nt), (1, .ref ro), (2, .int (nI co))] rfl ?_
  intro sz p e s m args below meth c C hr hk hnm
  have C : gz_C p s m args c cX1_home 3 RX1 D [(cI, .int), (cJ, .long), (cZ, .boolean)] (va_A (wC xo nt es ro ad cI cJ cZ ln fz sx mo sn bw tkv opv shv ldv wyv bdv ct dA dA sta stc fev dl dnv rov) sz) := C
  refine gz_aload_n C 0 dX1_home_0 rfl ?_
  refine gz_aload_n C 1 dX1_home_1 rfl ?_
  refine gz_iload_n C 2 dX1_home_2 rfl ?_
  refine gz_callV (wr := []) (n := 2) (ws2 := (wC xo nt es ro ad cI cJ cZ ln fz sx mo sn bw tkv opv shv ldv wyv bdv ct dA dA sta stc fev dl dnv rov)) (st2 := [.long (f1_cost tkv opv shv wyv bdv rov co)]) (cells2 := 0) (slots2 := 0) (ci := 2) C (kX1_cost l D xo nt es ro ad cI cJ cZ ln fz sx mo sn bw tkv opv shv ldv wyv bdv ct dA sta stc fev dl dnv rov co (by first | assumption | omega) (by first | assumption | omega)) (WB_V wk_239 wk_219 wk_220 wk_2 wk_221) (by decide +kernel) ⟨⟨rfl, rfl⟩, Nat.le_of_ble_eq_true rfl, Nat.le_of_ble_eq_true rfl⟩ [0, 1, 2, 3, 4, 5, 6, 7, 8, 9, 10, 11] [] [0, 1, 2] rfl rfl rfl (by decide) rfl 1 rfl rfl rfl rfl (Nat.le_of_ble_eq_true rfl) dX1_home_3 ⟨Nat.zero_le _, Nat.zero_le _⟩ rfl rfl rfl ?_
  refine gz_ldc2 (v := 1000000000) C wk_222 dX1_home_6 ?_
  refine gz_lrem (v := (f1_cost tkv opv shv wyv bdv rov co) - (f1_cost tkv opv shv wyv bdv rov co) / 1000000000 * 1000000000) C dX1_home_9 (by decide) rfl ?_
  exact gz_lret C hr hk (by first | rfl | (simp only [f1_home]) | (simp only [f1_home]; rfl)) rfl (Nat.le_refl _) (Nat.le_refl _) dX1_home_10

def f1_lateStop_lp (tkv : Nat → Int64) (opv : Nat → Int64) (shv : Nat → Int64) (wyv : Nat → Int64) (rov : Nat → Nat) (y : Int32) : Nat → Nat → Int64 → Nat → Nat → Int32
  | 0, u, ck, he, k => nI 0
  | n + 1, u, ck, he, k => if (ck + (wyv (he * 21 + (rov k)))) ≤ (shv (rov k)) then f1_lateStop_lp tkv opv shv wyv rov y n u (f1_doneAt tkv opv (rov k) (ck + (wyv (he * 21 + (rov k))))) (rov k) (k + 1) else if (nI u) = y then nI (rov k) else f1_lateStop_lp tkv opv shv wyv rov y n (u + 1) (f1_doneAt tkv opv (rov k) (ck + (wyv (he * 21 + (rov k))))) (rov k) (k + 1)
set_option maxRecDepth 100000 in
set_option maxHeartbeats 4000000 in
theorem lX1_lateStop_lp {p : Program} {l : Launch} {e : Env} {R : Room} {s : State} {m : MethodId} {args : Array Value} {below : List Frame} {meth : Method} {c : Code} {cells slots mc ms : Nat} {A : Nat → Prop} {ov : Option Value} {D : va_G} (xo : Nat) (nt : Nat) (es : Nat) (ro : Nat) (ad : Nat → Nat) (cI : ClassId) (cJ : ClassId) (cZ : ClassId) (ln : Int32) (fz : Nat) (sx : Bool) (mo : Int32) (sn : Nat) (bw : Int32) (tkv : Nat → Int64) (opv : Nat → Int64) (shv : Nat → Int64) (ldv : Nat → Int32) (wyv : Nat → Int64) (bdv : Nat → Bool) (ct : Nat) (dA : Nat) (sta : Nat) (stc : Int64) (fev : Nat → Nat) (dl : Nat) (dnv : Nat → Int64) (rov : Nat → Nat) (co : Nat) (y : Int32) (hc : co ≤ 20) (hro : ∀ k, k < co → rov k ≤ 20) (hR : 2 ≤ R.frames ∧ 46 ≤ R.locals) (hce : cells ≤ R.cells ∧ slots ≤ R.slots) (C : gz_C p s m args c cX1_lateStop 10 RX1 D [(cI, .int), (cJ, .long), (cZ, .boolean)] A) (hr : meth.sig.returnType = (some .int)) (hk : meth.locks = false) (hcm : cells ≤ mc) (hsm : slots ≤ ms) : ∀ (n : Nat) (u : Nat) (ck : Int64) (he : Nat) (k : Nat), (k + n = co) → (he ≤ 20) → some (.int (f1_lateStop_lp tkv opv shv wyv rov y n u ck he k)) = ov → GZ p l e R s m args below meth c 10 D A cells slots (MQ below (gz_Q D [(cI, .int), (cJ, .long), (cZ, .boolean)] ov (wC xo nt es ro ad cI cJ cZ ln fz sx mo sn bw tkv opv shv ldv wyv bdv ct dA dA sta stc fev dl dnv rov) A) args s mc ms A) (wC xo nt es ro ad cI cJ cZ ln fz sx mo sn bw tkv opv shv ldv wyv bdv ct dA dA sta stc fev dl dnv rov) [(0, .ref nt), (1, .ref ro), (2, .int (nI co)), (3, .int y), (4, .int (nI u)), (5, .long ck), (7, .int (nI he)), (8, .int (nI k))] [] 12 := by
  intro n
  induction n with
  | zero =>
    intro u ck he k hme hhe hov
    refine gz_iload C 7 dX1_lateStop_12 rfl ?_
    refine gz_iload_n C 2 dX1_lateStop_14 rfl ?_
    refine gz_ncmp_ge C 86 (by omega) (by omega) dX1_lateStop_15 (by decide) (fun h_1 => ?_) (fun h_1 => ?_)
    · skip
      refine gz_iconst (v := nI 0) C dX1_lateStop_86 (by decide) ?_
      exact gz_iret C hr hk (by rw [← hov]; first | rfl | (simp only [f1_lateStop_lp, if_pos h_1])) rfl hcm hsm dX1_lateStop_87
    · have g_1 : ¬ (co ≤ k) := (Nat.not_le.mpr h_1)
      exfalso; omega
  | succ n ih =>
    intro u ck he k hme hhe hov
    refine gz_iload C 7 dX1_lateStop_12 rfl ?_
    refine gz_iload_n C 2 dX1_lateStop_14 rfl ?_
    refine gz_ncmp_ge C 86 (by omega) (by omega) dX1_lateStop_15 (by decide) (fun h_1 => ?_) (fun h_1 => ?_)
    · skip
      exfalso; omega
    · have g_1 : ¬ (co ≤ k) := (Nat.not_le.mpr h_1)
      have hq := hro k (by omega)
      refine gz_aload_n C 1 dX1_lateStop_18 rfl ?_
      refine gz_iload C 7 dX1_lateStop_19 rfl ?_
      refine gz_iald C 11 0 rfl rfl (by omega) (by decide) dX1_lateStop_21 ?_
      refine gz_istore (lv2 := [(9, .int (nI (rov k))), (0, .ref nt), (1, .ref ro), (2, .int (nI co)), (3, .int y), (4, .int (nI u)), (5, .long ck), (7, .int (nI he)), (8, .int (nI k))]) C dX1_lateStop_22 (by decide) rfl ?_
      refine gz_lload C 6 dX1_lateStop_24 rfl ?_
      refine gz_aload_n C 1 dX1_lateStop_26 rfl ?_
      refine gz_get (ci := 2) C iwX1 1 rfl rfl 6 (by decide) wk_35 rfl rfl dX1_lateStop_27 ?_
      refine gz_iload C 7 dX1_lateStop_30 rfl ?_
      refine gz_iload C 0 dX1_lateStop_32 rfl ?_
      refine gz_callS (wr := []) (n := 2) (ws2 := (wC xo nt es ro ad cI cJ cZ ln fz sx mo sn bw tkv opv shv ldv wyv bdv ct dA dA sta stc fev dl dnv rov)) (st2 := [.int (nI (he * 21 + (rov k))), .ref ((ad 6)), .long ck]) (cells2 := cells) (slots2 := slots) C (kX1_between l D xo nt es ro ad cI cJ cZ ln fz sx mo sn bw tkv opv shv ldv wyv bdv ct dA sta stc fev dl dnv rov he (rov k) ) (WB_S wk_130 wk_131 wk_2 wk_132) (by decide +kernel) ⟨⟨rfl, rfl⟩, Nat.le_trans (by decide) hR.1, Nat.le_trans (by decide) hR.2⟩ [0, 1, 2, 3, 4, 5, 6, 7, 8, 9, 10, 11] [] [0, 1, 2] rfl rfl rfl (by decide) rfl rfl rfl (Nat.le_of_ble_eq_true rfl) dX1_lateStop_34 hce rfl rfl rfl ?_
      refine gz_lald C 6 1 rfl rfl (by omega) (by decide) dX1_lateStop_37 ?_
      refine gz_ladd (v := ck + (wyv (he * 21 + (rov k)))) C dX1_lateStop_38 rfl ?_
      refine gz_lstore (lv2 := [(5, .long (ck + (wyv (he * 21 + (rov k))))), (9, .int (nI (rov k))), (0, .ref nt), (1, .ref ro), (2, .int (nI co)), (3, .int y), (4, .int (nI u)), (7, .int (nI he)), (8, .int (nI k))]) C dX1_lateStop_39 (by decide) rfl ?_
      refine gz_lload C 0 dX1_lateStop_41 rfl ?_
      refine gz_aload_n C 2 dX1_lateStop_43 rfl ?_
      refine gz_get (ci := 2) C iwX1 1 rfl rfl 4 (by decide) wk_33 rfl rfl dX1_lateStop_44 ?_
      refine gz_iload C 1 dX1_lateStop_47 rfl ?_
      refine gz_lald C 4 1 rfl rfl (by omega) (by decide) dX1_lateStop_49 ?_
      refine gz_lcmp_le C 66 dX1_lateStop_50 dX1_lateStop_51 (by decide) (fun h_2 => ?_) (fun h_2 => ?_)
      · skip
        refine gz_aload_n C 2 dX1_lateStop_66 rfl ?_
        refine gz_iload C 1 dX1_lateStop_67 rfl ?_
        refine gz_lload C 0 dX1_lateStop_69 rfl ?_
        refine gz_callV (wr := []) (n := 2) (ws2 := (wC xo nt es ro ad cI cJ cZ ln fz sx mo sn bw tkv opv shv ldv wyv bdv ct dA dA sta stc fev dl dnv rov)) (st2 := [.long (f1_doneAt tkv opv (rov k) (ck + (wyv (he * 21 + (rov k)))))]) (cells2 := cells) (slots2 := slots) (ci := 2) C (kX1_doneAt l D xo nt es ro ad cI cJ cZ ln fz sx mo sn bw tkv opv shv ldv wyv bdv ct dA sta stc fev dl dnv rov (rov k) (ck + (wyv (he * 21 + (rov k)))) (by first | assumption | omega)) (WB_V wk_168 wk_169 wk_170 wk_2 wk_171) (by decide +kernel) ⟨⟨rfl, rfl⟩, Nat.le_trans (by decide) hR.1, Nat.le_trans (by decide) hR.2⟩ [0, 1, 2, 3, 4, 5, 6, 7, 8, 9, 10, 11] [] [0, 1, 2] rfl rfl rfl (by decide) rfl 1 rfl rfl rfl rfl (Nat.le_of_ble_eq_true rfl) dX1_lateStop_71 hce rfl rfl rfl ?_
        refine gz_lstore (lv2 := [(5, .long (f1_doneAt tkv opv (rov k) (ck + (wyv (he * 21 + (rov k)))))), (9, .int (nI (rov k))), (0, .ref nt), (1, .ref ro), (2, .int (nI co)), (3, .int y), (4, .int (nI u)), (7, .int (nI he)), (8, .int (nI k))]) C dX1_lateStop_74 (by decide) rfl ?_
        refine gz_iload C 1 dX1_lateStop_76 rfl ?_
        refine gz_istore (lv2 := [(7, .int (nI (rov k))), (5, .long (f1_doneAt tkv opv (rov k) (ck + (wyv (he * 21 + (rov k)))))), (9, .int (nI (rov k))), (0, .ref nt), (1, .ref ro), (2, .int (nI co)), (3, .int y), (4, .int (nI u)), (8, .int (nI k))]) C dX1_lateStop_78 (by decide) rfl ?_
        refine gz_iinc (v := nI (k + 1)) (lv2 := [(8, .int (nI (k + 1))), (7, .int (nI (rov k))), (5, .long (f1_doneAt tkv opv (rov k) (ck + (wyv (he * 21 + (rov k)))))), (9, .int (nI (rov k))), (0, .ref nt), (1, .ref ro), (2, .int (nI co)), (3, .int y), (4, .int (nI u))]) (k := 8) C dX1_lateStop_80 rfl (nI_add _ 1) (by decide) rfl ?_
        refine gz_goto C 12 dX1_lateStop_83 (by decide) ?_
        refine gz_lv [4, 5, 6, 7, 8, 2, 1, 0] rfl ?_
        simp only [f1_lateStop_lp, if_neg g_1, if_pos h_2] at hov
        exact ih u (f1_doneAt tkv opv (rov k) (ck + (wyv (he * 21 + (rov k))))) (rov k) (k + 1) (by omega) (by omega) hov
      · have g_2 : ¬ ((ck + (wyv (he * 21 + (rov k)))) ≤ (shv (rov k))) := h_2
        refine gz_iload C 6 dX1_lateStop_54 rfl ?_
        refine gz_iload_n C 5 dX1_lateStop_56 rfl ?_
        refine gz_icmp_ne C 63 dX1_lateStop_57 (by decide) (fun h_3 => ?_) (fun h_3 => ?_)
        · have g_3 : ¬ ((nI u) = y) := h_3
          refine gz_iinc (v := nI (u + 1)) (lv2 := [(4, .int (nI (u + 1))), (5, .long (ck + (wyv (he * 21 + (rov k))))), (9, .int (nI (rov k))), (0, .ref nt), (1, .ref ro), (2, .int (nI co)), (3, .int y), (7, .int (nI he)), (8, .int (nI k))]) (k := 6) C dX1_lateStop_63 rfl (nI_add _ 1) (by decide) rfl ?_
          refine gz_aload_n C 3 dX1_lateStop_66 rfl ?_
          refine gz_iload C 2 dX1_lateStop_67 rfl ?_
          refine gz_lload C 1 dX1_lateStop_69 rfl ?_
          refine gz_callV (wr := []) (n := 2) (ws2 := (wC xo nt es ro ad cI cJ cZ ln fz sx mo sn bw tkv opv shv ldv wyv bdv ct dA dA sta stc fev dl dnv rov)) (st2 := [.long (f1_doneAt tkv opv (rov k) (ck + (wyv (he * 21 + (rov k)))))]) (cells2 := cells) (slots2 := slots) (ci := 2) C (kX1_doneAt l D xo nt es ro ad cI cJ cZ ln fz sx mo sn bw tkv opv shv ldv wyv bdv ct dA sta stc fev dl dnv rov (rov k) (ck + (wyv (he * 21 + (rov k)))) (by first | assumption | omega)) (WB_V wk_168 wk_169 wk_170 wk_2 wk_171) (by decide +kernel) ⟨⟨rfl, rfl⟩, Nat.le_trans (by decide) hR.1, Nat.le_trans (by decide) hR.2⟩ [0, 1, 2, 3, 4, 5, 6, 7, 8, 9, 10, 11] [] [0, 1, 2] rfl rfl rfl (by decide) rfl 1 rfl rfl rfl rfl (Nat.le_of_ble_eq_true rfl) dX1_lateStop_71 hce rfl rfl rfl ?_
          refine gz_lstore (lv2 := [(5, .long (f1_doneAt tkv opv (rov k) (ck + (wyv (he * 21 + (rov k)))))), (4, .int (nI (u + 1))), (9, .int (nI (rov k))), (0, .ref nt), (1, .ref ro), (2, .int (nI co)), (3, .int y), (7, .int (nI he)), (8, .int (nI k))]) C dX1_lateStop_74 (by decide) rfl ?_
          refine gz_iload C 2 dX1_lateStop_76 rfl ?_
          refine gz_istore (lv2 := [(7, .int (nI (rov k))), (5, .long (f1_doneAt tkv opv (rov k) (ck + (wyv (he * 21 + (rov k)))))), (4, .int (nI (u + 1))), (9, .int (nI (rov k))), (0, .ref nt), (1, .ref ro), (2, .int (nI co)), (3, .int y), (8, .int (nI k))]) C dX1_lateStop_78 (by decide) rfl ?_
          refine gz_iinc (v := nI (k + 1)) (lv2 := [(8, .int (nI (k + 1))), (7, .int (nI (rov k))), (5, .long (f1_doneAt tkv opv (rov k) (ck + (wyv (he * 21 + (rov k)))))), (4, .int (nI (u + 1))), (9, .int (nI (rov k))), (0, .ref nt), (1, .ref ro), (2, .int (nI co)), (3, .int y)]) (k := 8) C dX1_lateStop_80 rfl (nI_add _ 1) (by decide) rfl ?_
          refine gz_goto C 12 dX1_lateStop_83 (by decide) ?_
          refine gz_lv [5, 6, 7, 8, 3, 2, 1, 0] rfl ?_
          simp only [f1_lateStop_lp, if_neg g_1, if_neg g_2, if_neg g_3] at hov
          exact ih (u + 1) (f1_doneAt tkv opv (rov k) (ck + (wyv (he * 21 + (rov k))))) (rov k) (k + 1) (by omega) (by omega) hov
        · skip
          refine gz_iload C 1 dX1_lateStop_60 rfl ?_
          exact gz_iret C hr hk (by rw [← hov]; first | rfl | (simp only [f1_lateStop_lp, if_neg g_1, if_neg g_2, if_pos h_3])) rfl hcm hsm dX1_lateStop_62

def f1_lateStop (tkv : Nat → Int64) (opv : Nat → Int64) (shv : Nat → Int64) (wyv : Nat → Int64) (rov : Nat → Nat) (co : Nat) (y : Int32) : Int32 := f1_lateStop_lp tkv opv shv wyv rov y co 0 0 0 0
set_option maxRecDepth 100000 in
set_option maxHeartbeats 4000000 in
theorem kX1_lateStop (l : Launch) (D : va_G) (xo : Nat) (nt : Nat) (es : Nat) (ro : Nat) (ad : Nat → Nat) (cI : ClassId) (cJ : ClassId) (cZ : ClassId) (ln : Int32) (fz : Nat) (sx : Bool) (mo : Int32) (sn : Nat) (bw : Int32) (tkv : Nat → Int64) (opv : Nat → Int64) (shv : Nat → Int64) (ldv : Nat → Int32) (wyv : Nat → Int64) (bdv : Nat → Bool) (ct : Nat) (dA : Nat) (sta : Nat) (stc : Int64) (fev : Nat → Nat) (dl : Nat) (dnv : Nat → Int64) (rov : Nat → Nat) (co : Nat) (y : Int32) (hc : co ≤ 20) (hro : ∀ k, k < co → rov k ≤ 20) : gz_M l yX1_lateStop cX1_lateStop 10 (some .int) ({ frames := 2, cells := 0, slots := 0, locals := 46 } : Room) D [(cI, .int), (cJ, .long), (cZ, .boolean)] [.ref nt, .ref ro, .int (nI co), .int y] (wC xo nt es ro ad cI cJ cZ ln fz sx mo sn bw tkv opv shv ldv wyv bdv ct dA dA sta stc fev dl dnv rov) (some (.int (f1_lateStop tkv opv shv wyv rov co y))) (wC xo nt es ro ad cI cJ cZ ln fz sx mo sn bw tkv opv shv ldv wyv bdv ct dA dA sta stc fev dl dnv rov) 0 0 := by
  refine gz_met l (by decide) (Nat.le_of_ble_eq_true rfl) [(0, .ref nt), (1, .ref ro), (2, .int (nI co)), (3, .int y)] rfl ?_
  intro sz p e s m args below meth c C hr hk hnm
  have C : gz_C p s m args c cX1_lateStop 10 RX1 D [(cI, .int), (cJ, .long), (cZ, .boolean)] (va_A (wC xo nt es ro ad cI cJ cZ ln fz sx mo sn bw tkv opv shv ldv wyv bdv ct dA dA sta stc fev dl dnv rov) sz) := C
  refine gz_iconst (v := nI 0) C dX1_lateStop_0 (by decide) ?_
  refine gz_istore (lv2 := [(4, .int (nI 0)), (0, .ref nt), (1, .ref ro), (2, .int (nI co)), (3, .int y)]) C dX1_lateStop_1 (by decide) rfl ?_
  refine gz_lconst (v := 0) C dX1_lateStop_3 (by decide) ?_
  refine gz_lstore (lv2 := [(5, .long 0), (4, .int (nI 0)), (0, .ref nt), (1, .ref ro), (2, .int (nI co)), (3, .int y)]) C dX1_lateStop_4 (by decide) rfl ?_
  refine gz_iconst (v := nI 0) C dX1_lateStop_6 (by decide) ?_
  refine gz_istore (lv2 := [(7, .int (nI 0)), (5, .long 0), (4, .int (nI 0)), (0, .ref nt), (1, .ref ro), (2, .int (nI co)), (3, .int y)]) C dX1_lateStop_7 (by decide) rfl ?_
  refine gz_iconst (v := nI 0) C dX1_lateStop_9 (by decide) ?_
  refine gz_istore (lv2 := [(8, .int (nI 0)), (7, .int (nI 0)), (5, .long 0), (4, .int (nI 0)), (0, .ref nt), (1, .ref ro), (2, .int (nI co)), (3, .int y)]) C dX1_lateStop_10 (by decide) rfl ?_
  refine gz_lv (lv2 := [(0, .ref nt), (1, .ref ro), (2, .int (nI co)), (3, .int y), (4, .int (nI 0)), (5, .long 0), (7, .int (nI 0)), (8, .int (nI 0))]) [4, 5, 6, 7, 3, 2, 1, 0] rfl ?_
  exact lX1_lateStop_lp xo nt es ro ad cI cJ cZ ln fz sx mo sn bw tkv opv shv ldv wyv bdv ct dA sta stc fev dl dnv rov co y (by first | assumption | omega) (by first | assumption | omega) ⟨Nat.le_of_ble_eq_true rfl, Nat.le_of_ble_eq_true rfl⟩ ⟨Nat.zero_le _, Nat.zero_le _⟩ C hr hk (Nat.le_refl _) (Nat.le_refl _) co 0 0 0 0 (by omega) (by first | assumption | omega) (by first | rfl | (simp only [f1_lateStop]) | (simp only [f1_lateStop]; rfl))

def f1_leastWayTo_lp (wyv : Nat → Int64) (bdv : Nat → Bool) (b : Nat) : Nat → Int64 → Nat → Int64 × Nat
  | 0, le, a => (le, a)
  | n + 1, le, a => f1_leastWayTo_lp wyv bdv b n ((if a = b then le else (if (bdv (a * 21 + b)) = true then le else (if wyv (a * 21 + b) < le then wyv (a * 21 + b) else le)))) (a + 1)
set_option maxRecDepth 100000 in
set_option maxHeartbeats 4000000 in
theorem lX1_leastWayTo_lp {p : Program} {l : Launch} {e : Env} {R : Room} {s : State} {m : MethodId} {args : Array Value} {below : List Frame} {meth : Method} {c : Code} {cells slots : Nat} {Q : State → Prop} {A : Nat → Prop} {D : va_G} (xo : Nat) (nt : Nat) (es : Nat) (ro : Nat) (ad : Nat → Nat) (cI : ClassId) (cJ : ClassId) (cZ : ClassId) (ln : Int32) (fz : Nat) (sx : Bool) (mo : Int32) (sn : Nat) (bw : Int32) (tkv : Nat → Int64) (opv : Nat → Int64) (shv : Nat → Int64) (ldv : Nat → Int32) (wyv : Nat → Int64) (bdv : Nat → Bool) (ct : Nat) (dA : Nat) (sta : Nat) (stc : Int64) (fev : Nat → Nat) (dl : Nat) (dnv : Nat → Int64) (rov : Nat → Nat) (b : Nat) (hsn : sn ≤ 20) (hb : b ≤ 20) (hR : 1 ≤ R.frames ∧ 23 ≤ R.locals) (hce : cells ≤ R.cells ∧ slots ≤ R.slots) (C : gz_C p s m args c cX1_leastWayTo 6 RX1 D [(cI, .int), (cJ, .long), (cZ, .boolean)] A) : ∀ (n : Nat) (le : Int64) (a : Nat), (a + n = sn + 1) → ((((f1_leastWayTo_lp wyv bdv b n le a).2) + 0 = sn + 1) → GZ p l e R s m args below meth c 6 D A cells slots Q (wC xo nt es ro ad cI cJ cZ ln fz sx mo sn bw tkv opv shv ldv wyv bdv ct dA dA sta stc fev dl dnv rov) [(0, .ref nt), (1, .int (nI b)), (2, .long ((f1_leastWayTo_lp wyv bdv b n le a).1)), (4, .int (nI ((f1_leastWayTo_lp wyv bdv b n le a).2)))] [] 58) → GZ p l e R s m args below meth c 6 D A cells slots Q (wC xo nt es ro ad cI cJ cZ ln fz sx mo sn bw tkv opv shv ldv wyv bdv ct dA dA sta stc fev dl dnv rov) [(0, .ref nt), (1, .int (nI b)), (2, .long le), (4, .int (nI a))] [] 7 := by
  intro n
  induction n with
  | zero =>
    intro le a hme  hx
    refine gz_iload C 3 dX1_leastWayTo_7 rfl ?_
    refine gz_aload_n C 0 dX1_leastWayTo_9 rfl ?_
    refine gz_get (ci := 2) C iwX1 1 rfl rfl 0 (by decide) wk_27 rfl rfl dX1_leastWayTo_10 ?_
    refine gz_ncmp_gt C 58 (by omega) (by omega) dX1_leastWayTo_13 (by decide) (fun h_1 => ?_) (fun h_1 => ?_)
    · skip
      exact gz_lv [0, 1, 2, 3] rfl (hx hme )
    · have g_1 : ¬ (sn < a) := (Nat.not_lt.mpr h_1)
      exfalso; omega
  | succ n ih =>
    intro le a hme  hx
    refine gz_iload C 3 dX1_leastWayTo_7 rfl ?_
    refine gz_aload_n C 0 dX1_leastWayTo_9 rfl ?_
    refine gz_get (ci := 2) C iwX1 1 rfl rfl 0 (by decide) wk_27 rfl rfl dX1_leastWayTo_10 ?_
    refine gz_ncmp_gt C 58 (by omega) (by omega) dX1_leastWayTo_13 (by decide) (fun h_1 => ?_) (fun h_1 => ?_)
    · skip
      exfalso; omega
    · have g_1 : ¬ (sn < a) := (Nat.not_lt.mpr h_1)
      refine gz_iload C 3 dX1_leastWayTo_16 rfl ?_
      refine gz_iload_n C 1 dX1_leastWayTo_18 rfl ?_
      refine gz_callS (wr := []) (n := 2) (ws2 := (wC xo nt es ro ad cI cJ cZ ln fz sx mo sn bw tkv opv shv ldv wyv bdv ct dA dA sta stc fev dl dnv rov)) (st2 := [.int (nI (a * 21 + b))]) (cells2 := cells) (slots2 := slots) C (kX1_between l D xo nt es ro ad cI cJ cZ ln fz sx mo sn bw tkv opv shv ldv wyv bdv ct dA sta stc fev dl dnv rov a b ) (WB_S wk_130 wk_131 wk_2 wk_132) (by decide +kernel) ⟨⟨rfl, rfl⟩, Nat.le_trans (by decide) hR.1, Nat.le_trans (by decide) hR.2⟩ [0, 1, 2, 3, 4, 5, 6, 7, 8, 9, 10, 11] [] [0, 1, 2] rfl rfl rfl (by decide) rfl rfl rfl (Nat.le_of_ble_eq_true rfl) dX1_leastWayTo_19 hce rfl rfl rfl ?_
      refine gz_istore (lv2 := [(5, .int (nI (a * 21 + b))), (0, .ref nt), (1, .int (nI b)), (2, .long le), (4, .int (nI a))]) C dX1_leastWayTo_22 (by decide) rfl ?_
      refine gz_iload C 4 dX1_leastWayTo_24 rfl ?_
      refine gz_iload_n C 2 dX1_leastWayTo_26 rfl ?_
      refine gz_J (ws2 := (wC xo nt es ro ad cI cJ cZ ln fz sx mo sn bw tkv opv shv ldv wyv bdv ct dA dA sta stc fev dl dnv rov)) (lv2 := [(5, .int (nI (a * 21 + b))), (0, .ref nt), (1, .int (nI b)), (2, .long ((if a = b then le else (if (bdv (a * 21 + b)) = true then le else (if wyv (a * 21 + b) < le then wyv (a * 21 + b) else le))))), (4, .int (nI a))]) (st2 := []) (pc2 := 52) ?_ (fun J_2 => ?_)
      rotate_left
      · refine gz_ncmp_eq C 52 (by omega) (by omega) dX1_leastWayTo_27 (by decide) (fun h_2 => ?_) (fun h_2 => ?_)
        · skip
          simp only [if_pos h_2] at J_2 ⊢
          exact gz_lv [0, 1, 2, 3, 4] rfl J_2
        · have g_2 : ¬ (a = b) := h_2
          refine gz_aload_n C 1 dX1_leastWayTo_30 rfl ?_
          refine gz_get (ci := 2) C iwX1 1 rfl rfl 7 (by decide) wk_36 rfl rfl dX1_leastWayTo_31 ?_
          refine gz_iload C 0 dX1_leastWayTo_34 rfl ?_
          refine gz_zald C 7 2 rfl rfl (by omega) (by decide) dX1_leastWayTo_36 ?_
          refine gz_J (ws2 := (wC xo nt es ro ad cI cJ cZ ln fz sx mo sn bw tkv opv shv ldv wyv bdv ct dA dA sta stc fev dl dnv rov)) (lv2 := [(5, .int (nI (a * 21 + b))), (0, .ref nt), (1, .int (nI b)), (2, .long ((if (bdv (a * 21 + b)) = true then le else (if wyv (a * 21 + b) < le then wyv (a * 21 + b) else le)))), (4, .int (nI a))]) (st2 := []) (pc2 := 52) ?_ (fun J_3 => ?_)
          rotate_left
          · refine gz_bif_ne C 52 dX1_leastWayTo_37 (by decide) (fun h_3 => ?_) (fun h_3 => ?_)
            · skip
              simp only [if_pos h_3] at J_3 ⊢
              exact gz_lv [0, 1, 2, 3, 4] rfl J_3
            · have g_3 : ¬ ((bdv (a * 21 + b)) = true) := (by rw [h_3]; decide)
              refine gz_lload_n C 3 dX1_leastWayTo_40 rfl ?_
              refine gz_aload_n C 1 dX1_leastWayTo_41 rfl ?_
              refine gz_get (ci := 2) C iwX1 1 rfl rfl 6 (by decide) wk_35 rfl rfl dX1_leastWayTo_42 ?_
              refine gz_iload C 0 dX1_leastWayTo_45 rfl ?_
              refine gz_lald C 6 1 rfl rfl (by omega) (by decide) dX1_leastWayTo_47 ?_
              refine gz_mmin_long (v := (if wyv (a * 21 + b) < le then wyv (a * 21 + b) else le)) C wk_292 wk_195 wk_5 wk_196 (Nat.le_trans (by decide) hR.1) (Nat.le_trans (by decide) hR.2) hce.1 hce.2 dX1_leastWayTo_48 rfl ?_
              refine gz_lstore_n (lv2 := [(2, .long ((if wyv (a * 21 + b) < le then wyv (a * 21 + b) else le))), (5, .int (nI (a * 21 + b))), (0, .ref nt), (1, .int (nI b)), (4, .int (nI a))]) C dX1_leastWayTo_51 (by decide) rfl ?_
              simp only [if_neg g_3] at J_3 ⊢
              exact gz_lv [1, 2, 3, 0, 4] rfl J_3
          simp only [if_neg g_2] at J_2 ⊢
          exact gz_lv [0, 1, 2, 3, 4] rfl J_2
      refine gz_iinc (v := nI (a + 1)) (lv2 := [(4, .int (nI (a + 1))), (5, .int (nI (a * 21 + b))), (0, .ref nt), (1, .int (nI b)), (2, .long ((if a = b then le else (if (bdv (a * 21 + b)) = true then le else (if wyv (a * 21 + b) < le then wyv (a * 21 + b) else le)))))]) (k := 4) C dX1_leastWayTo_52 rfl (nI_add _ 1) (by decide) rfl ?_
      refine gz_goto C 7 dX1_leastWayTo_55 (by decide) ?_
      refine gz_lv [2, 3, 4, 0] rfl ?_
      simp only [f1_leastWayTo_lp, if_neg g_1] at hx
      exact ih ((if a = b then le else (if (bdv (a * 21 + b)) = true then le else (if wyv (a * 21 + b) < le then wyv (a * 21 + b) else le)))) (a + 1) (by omega)  hx

def f1_leastWayTo (sn : Nat) (wyv : Nat → Int64) (bdv : Nat → Bool) (b : Nat) : Int64 := (f1_leastWayTo_lp wyv bdv b (sn + 1) 1000000000000000 0).1
set_option maxRecDepth 100000 in
set_option maxHeartbeats 4000000 in
theorem kX1_leastWayTo (l : Launch) (D : va_G) (xo : Nat) (nt : Nat) (es : Nat) (ro : Nat) (ad : Nat → Nat) (cI : ClassId) (cJ : ClassId) (cZ : ClassId) (ln : Int32) (fz : Nat) (sx : Bool) (mo : Int32) (sn : Nat) (bw : Int32) (tkv : Nat → Int64) (opv : Nat → Int64) (shv : Nat → Int64) (ldv : Nat → Int32) (wyv : Nat → Int64) (bdv : Nat → Bool) (ct : Nat) (dA : Nat) (sta : Nat) (stc : Int64) (fev : Nat → Nat) (dl : Nat) (dnv : Nat → Int64) (rov : Nat → Nat) (b : Nat) (hsn : sn ≤ 20) (hb : b ≤ 20) : gz_M l yX1_leastWayTo cX1_leastWayTo 6 (some .long) ({ frames := 1, cells := 0, slots := 0, locals := 23 } : Room) D [(cI, .int), (cJ, .long), (cZ, .boolean)] [.ref nt, .int (nI b)] (wC xo nt es ro ad cI cJ cZ ln fz sx mo sn bw tkv opv shv ldv wyv bdv ct dA dA sta stc fev dl dnv rov) (some (.long (f1_leastWayTo sn wyv bdv b))) (wC xo nt es ro ad cI cJ cZ ln fz sx mo sn bw tkv opv shv ldv wyv bdv ct dA dA sta stc fev dl dnv rov) 0 0 := by
  refine gz_met l (by decide) (Nat.le_of_ble_eq_true rfl) [(0, .ref nt), (1, .int (nI b))] rfl ?_
  intro sz p e s m args below meth c C hr hk hnm
  have C : gz_C p s m args c cX1_leastWayTo 6 RX1 D [(cI, .int), (cJ, .long), (cZ, .boolean)] (va_A (wC xo nt es ro ad cI cJ cZ ln fz sx mo sn bw tkv opv shv ldv wyv bdv ct dA dA sta stc fev dl dnv rov) sz) := C
  refine gz_ldc2 (v := 1000000000000000) C wk_26 dX1_leastWayTo_0 ?_
  refine gz_lstore_n (lv2 := [(2, .long 1000000000000000), (0, .ref nt), (1, .int (nI b))]) C dX1_leastWayTo_3 (by decide) rfl ?_
  refine gz_iconst (v := nI 0) C dX1_leastWayTo_4 (by decide) ?_
  refine gz_istore (lv2 := [(4, .int (nI 0)), (2, .long 1000000000000000), (0, .ref nt), (1, .int (nI b))]) C dX1_leastWayTo_5 (by decide) rfl ?_
  refine gz_lv (lv2 := [(0, .ref nt), (1, .int (nI b)), (2, .long 1000000000000000), (4, .int (nI 0))]) [2, 3, 1, 0] rfl ?_
  refine lX1_leastWayTo_lp xo nt es ro ad cI cJ cZ ln fz sx mo sn bw tkv opv shv ldv wyv bdv ct dA sta stc fev dl dnv rov b (by first | assumption | omega) (by first | assumption | omega) ⟨Nat.le_of_ble_eq_true rfl, Nat.le_of_ble_eq_true rfl⟩ ⟨Nat.zero_le _, Nat.zero_le _⟩ C (sn + 1) 1000000000000000 0 (by omega)  ?_
  intro zme_lp
  refine gz_lload_n C 2 dX1_leastWayTo_58 rfl ?_
  exact gz_lret C hr hk (by first | rfl | (simp only [f1_leastWayTo]) | (simp only [f1_leastWayTo]; rfl)) rfl (Nat.le_refl _) (Nat.le_refl _) dX1_leastWayTo_59

def f1_leastTime_lp (sn : Nat) (tkv : Nat → Int64) (wyv : Nat → Int64) (bdv : Nat → Bool) : Nat → Int64 → Nat → Int64
  | 0, su, b => su
  | n + 1, su, b => if (f1_leastWayTo sn wyv bdv b) = 1000000000000000 then (-1) else f1_leastTime_lp sn tkv wyv bdv n (su + ((tkv b) + (f1_leastWayTo sn wyv bdv b))) (b + 1)
set_option maxRecDepth 100000 in
set_option maxHeartbeats 4000000 in
theorem lX1_leastTime_lp {p : Program} {l : Launch} {e : Env} {R : Room} {s : State} {m : MethodId} {args : Array Value} {below : List Frame} {meth : Method} {c : Code} {cells slots mc ms : Nat} {A : Nat → Prop} {ov : Option Value} {D : va_G} (xo : Nat) (nt : Nat) (es : Nat) (ro : Nat) (ad : Nat → Nat) (cI : ClassId) (cJ : ClassId) (cZ : ClassId) (ln : Int32) (fz : Nat) (sx : Bool) (mo : Int32) (sn : Nat) (bw : Int32) (tkv : Nat → Int64) (opv : Nat → Int64) (shv : Nat → Int64) (ldv : Nat → Int32) (wyv : Nat → Int64) (bdv : Nat → Bool) (ct : Nat) (dA : Nat) (sta : Nat) (stc : Int64) (fev : Nat → Nat) (dl : Nat) (dnv : Nat → Int64) (rov : Nat → Nat) (hsn : sn ≤ 20) (hR : 2 ≤ R.frames ∧ 48 ≤ R.locals) (hce : cells ≤ R.cells ∧ slots ≤ R.slots) (C : gz_C p s m args c cX1_leastTime 6 RX1 D [(cI, .int), (cJ, .long), (cZ, .boolean)] A) (hr : meth.sig.returnType = (some .long)) (hk : meth.locks = false) (hcm : cells ≤ mc) (hsm : slots ≤ ms) : ∀ (n : Nat) (su : Int64) (b : Nat), (b + n = sn + 1) → some (.long (f1_leastTime_lp sn tkv wyv bdv n su b)) = ov → GZ p l e R s m args below meth c 6 D A cells slots (MQ below (gz_Q D [(cI, .int), (cJ, .long), (cZ, .boolean)] ov (wC xo nt es ro ad cI cJ cZ ln fz sx mo sn bw tkv opv shv ldv wyv bdv ct dA dA sta stc fev dl dnv rov) A) args s mc ms A) (wC xo nt es ro ad cI cJ cZ ln fz sx mo sn bw tkv opv shv ldv wyv bdv ct dA dA sta stc fev dl dnv rov) [(0, .ref nt), (1, .long su), (3, .int (nI b))] [] 13 := by
  intro n
  induction n with
  | zero =>
    intro su b hme  hov
    refine gz_iload_n C 2 dX1_leastTime_13 rfl ?_
    refine gz_aload_n C 0 dX1_leastTime_14 rfl ?_
    refine gz_get (ci := 2) C iwX1 1 rfl rfl 0 (by decide) wk_27 rfl rfl dX1_leastTime_15 ?_
    refine gz_ncmp_gt C 59 (by omega) (by omega) dX1_leastTime_18 (by decide) (fun h_1 => ?_) (fun h_1 => ?_)
    · skip
      refine gz_lload_n C 1 dX1_leastTime_59 rfl ?_
      exact gz_lret C hr hk (by rw [← hov]; first | rfl | (simp only [f1_leastTime_lp, if_pos h_1])) rfl hcm hsm dX1_leastTime_60
    · have g_1 : ¬ (sn < b) := (Nat.not_lt.mpr h_1)
      exfalso; omega
  | succ n ih =>
    intro su b hme  hov
    refine gz_iload_n C 2 dX1_leastTime_13 rfl ?_
    refine gz_aload_n C 0 dX1_leastTime_14 rfl ?_
    refine gz_get (ci := 2) C iwX1 1 rfl rfl 0 (by decide) wk_27 rfl rfl dX1_leastTime_15 ?_
    refine gz_ncmp_gt C 59 (by omega) (by omega) dX1_leastTime_18 (by decide) (fun h_1 => ?_) (fun h_1 => ?_)
    · skip
      exfalso; omega
    · have g_1 : ¬ (sn < b) := (Nat.not_lt.mpr h_1)
      refine gz_aload_n C 0 dX1_leastTime_21 rfl ?_
      refine gz_iload_n C 2 dX1_leastTime_22 rfl ?_
      refine gz_callV (wr := []) (n := 1) (ws2 := (wC xo nt es ro ad cI cJ cZ ln fz sx mo sn bw tkv opv shv ldv wyv bdv ct dA dA sta stc fev dl dnv rov)) (st2 := [.long (f1_leastWayTo sn wyv bdv b)]) (cells2 := cells) (slots2 := slots) (ci := 2) C (kX1_leastWayTo l D xo nt es ro ad cI cJ cZ ln fz sx mo sn bw tkv opv shv ldv wyv bdv ct dA sta stc fev dl dnv rov b (by first | assumption | omega) (by first | assumption | omega)) (WB_V wk_288 wk_290 ws_14 wk_2 wk_291) (by decide +kernel) ⟨⟨rfl, rfl⟩, Nat.le_trans (by decide) hR.1, Nat.le_trans (by decide) hR.2⟩ [0, 1, 2, 3, 4, 5, 6, 7, 8, 9, 10, 11] [] [0, 1, 2] rfl rfl rfl (by decide) rfl 1 rfl rfl rfl rfl (Nat.le_of_ble_eq_true rfl) dX1_leastTime_23 hce rfl rfl rfl ?_
      refine gz_lstore (lv2 := [(4, .long (f1_leastWayTo sn wyv bdv b)), (0, .ref nt), (1, .long su), (3, .int (nI b))]) C dX1_leastTime_26 (by decide) rfl ?_
      refine gz_lload C 0 dX1_leastTime_28 rfl ?_
      refine gz_ldc2 (v := 1000000000000000) C wk_26 dX1_leastTime_30 ?_
      refine gz_lcmp_ne C 41 dX1_leastTime_33 dX1_leastTime_34 (by decide) (fun h_2 => ?_) (fun h_2 => ?_)
      · have g_2 : ¬ ((f1_leastWayTo sn wyv bdv b) = 1000000000000000) := h_2
        refine gz_lload_n C 2 dX1_leastTime_41 rfl ?_
        refine gz_aload_n C 1 dX1_leastTime_42 rfl ?_
        refine gz_get (ci := 2) C iwX1 1 rfl rfl 2 (by decide) wk_31 rfl rfl dX1_leastTime_43 ?_
        refine gz_iload_n C 3 dX1_leastTime_46 rfl ?_
        refine gz_lald C 2 1 rfl rfl (by omega) (by decide) dX1_leastTime_47 ?_
        refine gz_lload C 0 dX1_leastTime_48 rfl ?_
        refine gz_ladd (v := (tkv b) + (f1_leastWayTo sn wyv bdv b)) C dX1_leastTime_50 rfl ?_
        refine gz_ladd (v := su + ((tkv b) + (f1_leastWayTo sn wyv bdv b))) C dX1_leastTime_51 rfl ?_
        refine gz_lstore_n (lv2 := [(1, .long (su + ((tkv b) + (f1_leastWayTo sn wyv bdv b)))), (4, .long (f1_leastWayTo sn wyv bdv b)), (0, .ref nt), (3, .int (nI b))]) C dX1_leastTime_52 (by decide) rfl ?_
        refine gz_iinc (v := nI (b + 1)) (lv2 := [(3, .int (nI (b + 1))), (1, .long (su + ((tkv b) + (f1_leastWayTo sn wyv bdv b)))), (4, .long (f1_leastWayTo sn wyv bdv b)), (0, .ref nt)]) (k := 3) C dX1_leastTime_53 rfl (nI_add _ 1) (by decide) rfl ?_
        refine gz_goto C 13 dX1_leastTime_56 (by decide) ?_
        refine gz_lv [3, 1, 0] rfl ?_
        simp only [f1_leastTime_lp, if_neg g_1, if_neg g_2] at hov
        exact ih (su + ((tkv b) + (f1_leastWayTo sn wyv bdv b))) (b + 1) (by omega)  hov
      · skip
        refine gz_ldc2 (v := (-1)) C wk_293 dX1_leastTime_37 ?_
        exact gz_lret C hr hk (by rw [← hov]; first | rfl | (simp only [f1_leastTime_lp, if_neg g_1, if_pos h_2])) rfl hcm hsm dX1_leastTime_40

def f1_leastTime (sn : Nat) (tkv : Nat → Int64) (wyv : Nat → Int64) (bdv : Nat → Bool) : Int64 := (if sn = 0 then 0 else f1_leastTime_lp sn tkv wyv bdv (sn + 1) 0 0)
set_option maxRecDepth 100000 in
set_option maxHeartbeats 4000000 in
theorem kX1_leastTime (l : Launch) (D : va_G) (xo : Nat) (nt : Nat) (es : Nat) (ro : Nat) (ad : Nat → Nat) (cI : ClassId) (cJ : ClassId) (cZ : ClassId) (ln : Int32) (fz : Nat) (sx : Bool) (mo : Int32) (sn : Nat) (bw : Int32) (tkv : Nat → Int64) (opv : Nat → Int64) (shv : Nat → Int64) (ldv : Nat → Int32) (wyv : Nat → Int64) (bdv : Nat → Bool) (ct : Nat) (dA : Nat) (sta : Nat) (stc : Int64) (fev : Nat → Nat) (dl : Nat) (dnv : Nat → Int64) (rov : Nat → Nat) (hsn : sn ≤ 20) : gz_M l yX1_leastTime cX1_leastTime 6 (some .long) ({ frames := 2, cells := 0, slots := 0, locals := 48 } : Room) D [(cI, .int), (cJ, .long), (cZ, .boolean)] [.ref nt] (wC xo nt es ro ad cI cJ cZ ln fz sx mo sn bw tkv opv shv ldv wyv bdv ct dA dA sta stc fev dl dnv rov) (some (.long (f1_leastTime sn tkv wyv bdv))) (wC xo nt es ro ad cI cJ cZ ln fz sx mo sn bw tkv opv shv ldv wyv bdv ct dA dA sta stc fev dl dnv rov) 0 0 := by
  refine gz_met l (by decide) (Nat.le_of_ble_eq_true rfl) [(0, .ref nt)] rfl ?_
  intro sz p e s m args below meth c C hr hk hnm
  have C : gz_C p s m args c cX1_leastTime 6 RX1 D [(cI, .int), (cJ, .long), (cZ, .boolean)] (va_A (wC xo nt es ro ad cI cJ cZ ln fz sx mo sn bw tkv opv shv ldv wyv bdv ct dA dA sta stc fev dl dnv rov) sz) := C
  refine gz_aload_n C 0 dX1_leastTime_0 rfl ?_
  refine gz_get (ci := 2) C iwX1 1 rfl rfl 0 (by decide) wk_27 rfl rfl dX1_leastTime_1 ?_
  refine gz_nif_ne C 9 (by omega) dX1_leastTime_4 (by decide) (fun h_1 => ?_) (fun h_1 => ?_)
  · have g_1 : ¬ (sn = 0) := h_1
    refine gz_lconst (v := 0) C dX1_leastTime_9 (by decide) ?_
    refine gz_lstore_n (lv2 := [(1, .long 0), (0, .ref nt)]) C dX1_leastTime_10 (by decide) rfl ?_
    refine gz_iconst (v := nI 0) C dX1_leastTime_11 (by decide) ?_
    refine gz_istore_n (lv2 := [(3, .int (nI 0)), (1, .long 0), (0, .ref nt)]) C dX1_leastTime_12 (by decide) rfl ?_
    refine gz_lv (lv2 := [(0, .ref nt), (1, .long 0), (3, .int (nI 0))]) [2, 1, 0] rfl ?_
    refine gz_end (ws2 := (wC xo nt es ro ad cI cJ cZ ln fz sx mo sn bw tkv opv shv ldv wyv bdv ct dA dA sta stc fev dl dnv rov)) rfl ?_
    exact lX1_leastTime_lp xo nt es ro ad cI cJ cZ ln fz sx mo sn bw tkv opv shv ldv wyv bdv ct dA sta stc fev dl dnv rov (by first | assumption | omega) ⟨Nat.le_of_ble_eq_true rfl, Nat.le_of_ble_eq_true rfl⟩ ⟨Nat.zero_le _, Nat.zero_le _⟩ C hr hk (Nat.le_refl _) (Nat.le_refl _) (sn + 1) 0 0 (by omega)  (by first | rfl | (simp only [f1_leastTime, if_neg g_1]) | (simp only [f1_leastTime, if_neg g_1]; rfl))
  · skip
    refine gz_lconst (v := 0) C dX1_leastTime_7 (by decide) ?_
    exact gz_lret C hr hk (by first | rfl | (simp only [f1_leastTime, if_pos h_1]) | (simp only [f1_leastTime, if_pos h_1]; rfl)) rfl (Nat.le_refl _) (Nat.le_refl _) dX1_leastTime_8


theorem bz_ix {t ct k F dl : Nat} (ht : t < F) (hk : k < ct) (h : F * ct ≤ dl) : t * ct + k < dl := by
  have h1 : (t + 1) * ct ≤ F * ct := Nat.mul_le_mul_right ct ht
  rw [Nat.add_mul, Nat.one_mul] at h1
  omega

def f0_has (t : Nat) (k : Nat) : Bool := (if ((t / 2 ^ k) % 2) = 1 then true else false)
set_option maxRecDepth 100000 in
set_option maxHeartbeats 4000000 in
theorem kX0_has (l : Launch) (D : va_G) (xo : Nat) (nt : Nat) (es : Nat) (ro : Nat) (ad : Nat → Nat) (cI : ClassId) (cJ : ClassId) (cZ : ClassId) (ln : Int32) (fz : Nat) (sx : Bool) (mo : Int32) (sn : Nat) (bw : Int32) (tkv : Nat → Int64) (opv : Nat → Int64) (shv : Nat → Int64) (ldv : Nat → Int32) (wyv : Nat → Int64) (bdv : Nat → Bool) (ct : Nat) (dA : Nat) (sta : Nat) (stc : Int64) (fev : Nat → Nat) (dl : Nat) (dnv : Nat → Int64) (rov : Nat → Nat) (t : Nat) (k : Nat) (ht : t < 2048) (hk : k < 32) : gz_M l yX0_has cX0_has 2 (some .boolean) ({ frames := 0, cells := 0, slots := 0, locals := 0 } : Room) D [(cI, .int), (cJ, .long), (cZ, .boolean)] [.int (nI t), .int (nI k)] (wC xo nt es ro ad cI cJ cZ ln fz sx mo sn bw tkv opv shv ldv wyv bdv ct dA dA sta stc fev dl dnv rov) (some (.int (bI (f0_has t k)))) (wC xo nt es ro ad cI cJ cZ ln fz sx mo sn bw tkv opv shv ldv wyv bdv ct dA dA sta stc fev dl dnv rov) 0 0 := by
  refine gz_met l (by decide) (Nat.le_of_ble_eq_true rfl) [(0, .int (nI t)), (1, .int (nI k))] rfl ?_
  intro sz p e s m args below meth c C hr hk hnm
  have C : gz_C p s m args c cX0_has 2 RX0 D [(cI, .int), (cJ, .long), (cZ, .boolean)] (va_A (wC xo nt es ro ad cI cJ cZ ln fz sx mo sn bw tkv opv shv ldv wyv bdv ct dA dA sta stc fev dl dnv rov) sz) := C
  refine gz_iload_n C 0 dX0_has_0 rfl ?_
  refine gz_iload_n C 1 dX0_has_1 rfl ?_
  refine gz_ishr (v := nI (t / 2 ^ k)) C dX0_has_2 (bz_shr (by omega) (by omega)) ?_
  refine gz_iconst (v := nI 1) C dX0_has_3 (by decide) ?_
  refine gz_iand (v := nI ((t / 2 ^ k) % 2)) C dX0_has_4 (bz_and1 _ (Nat.lt_of_le_of_lt (Nat.div_le_self _ _) (by omega))) ?_
  refine gz_iconst (v := nI 1) C dX0_has_5 (by decide) ?_
  refine gz_J (ws2 := (wC xo nt es ro ad cI cJ cZ ln fz sx mo sn bw tkv opv shv ldv wyv bdv ct dA dA sta stc fev dl dnv rov)) (lv2 := [(0, .int (nI t)), (1, .int (nI k))]) (st2 := [.int (nI ((if ((t / 2 ^ k) % 2) = 1 then 1 else 0)))]) (pc2 := 14) ?_ (fun J_1 => ?_)
  rotate_left
  · refine gz_ncmp_ne C 13 (by omega) (by omega) dX0_has_6 (by decide) (fun h_1 => ?_) (fun h_1 => ?_)
    · have g_1 : ¬ (((t / 2 ^ k) % 2) = 1) := h_1
      refine gz_iconst (v := nI 0) C dX0_has_13 (by decide) ?_
      simp only [if_neg g_1] at J_1 ⊢
      exact gz_lv [0, 1] rfl J_1
    · skip
      refine gz_iconst (v := nI 1) C dX0_has_9 (by decide) ?_
      refine gz_goto C 14 dX0_has_10 (by decide) ?_
      simp only [if_pos h_1] at J_1 ⊢
      exact gz_lv [0, 1] rfl J_1
  refine gz_sw (v := .int (nI ((if ((t / 2 ^ k) % 2) = 1 then 1 else 0)))) (w := .int (bI ((if ((t / 2 ^ k) % 2) = 1 then true else false)))) (by rw [show nI ((if ((t / 2 ^ k) % 2) = 1 then 1 else 0)) = bI ((if ((t / 2 ^ k) % 2) = 1 then true else false)) from (by first | rfl | decide | ((repeat' split) <;> rfl))]) ?_
  exact gz_zret C hr hk (bI_nar _) (by first | rfl | (simp only [f0_has]) | (simp only [f0_has]; rfl)) rfl (Nat.le_refl _) (Nat.le_refl _) dX0_has_14

def f0_followFrozen_lp (tkv : Nat → Int64) (opv : Nat → Int64) (shv : Nat → Int64) (wyv : Nat → Int64) (bdv : Nat → Bool) (rov : Nat → Nat) : Nat → Nat → Nat → Int64 → Nat × Nat × Int64
  | 0, k, sta, stc => (k, sta, stc)
  | n + 1, k, sta, stc => f0_followFrozen_lp tkv opv shv wyv bdv rov n (k + 1) (rov k) (f1_goodLeg tkv opv shv wyv bdv sta stc (rov k))
set_option maxRecDepth 100000 in
set_option maxHeartbeats 4000000 in
theorem lX0_followFrozen_lp {p : Program} {l : Launch} {e : Env} {R : Room} {s : State} {m : MethodId} {args : Array Value} {below : List Frame} {meth : Method} {c : Code} {cells slots : Nat} {Q : State → Prop} {A : Nat → Prop} {D : va_G} (xo : Nat) (nt : Nat) (es : Nat) (ro : Nat) (ad : Nat → Nat) (cI : ClassId) (cJ : ClassId) (cZ : ClassId) (ln : Int32) (fz : Nat) (sx : Bool) (mo : Int32) (sn : Nat) (bw : Int32) (tkv : Nat → Int64) (opv : Nat → Int64) (shv : Nat → Int64) (ldv : Nat → Int32) (wyv : Nat → Int64) (bdv : Nat → Bool) (ct : Nat) (dA : Nat) (fev : Nat → Nat) (dl : Nat) (dnv : Nat → Int64) (rov : Nat → Nat) (z : Nat) (hz : z ≤ 20) (hro : ∀ k, k < z → rov k ≤ 20) (hR : 3 ≤ R.frames ∧ 73 ≤ R.locals) (hce : cells ≤ R.cells ∧ slots ≤ R.slots) (C : gz_C p s m args c cX0_followFrozen 5 RX0 D [(cI, .int), (cJ, .long), (cZ, .boolean)] A) : ∀ (n : Nat) (k : Nat) (sta : Nat) (stc : Int64), (k + n = z) → (sta ≤ 20) → ((((f0_followFrozen_lp tkv opv shv wyv bdv rov n k sta stc).1) + 0 = z) → (((f0_followFrozen_lp tkv opv shv wyv bdv rov n k sta stc).2.1) ≤ 20) → GZ p l e R s m args below meth c 5 D A cells slots Q (wC xo nt es ro ad cI cJ cZ ln fz sx mo sn bw tkv opv shv ldv wyv bdv ct dA dA ((f0_followFrozen_lp tkv opv shv wyv bdv rov n k sta stc).2.1) ((f0_followFrozen_lp tkv opv shv wyv bdv rov n k sta stc).2.2) fev dl dnv rov) [(0, .ref es), (1, .ref nt), (2, .ref ro), (3, .int (nI z)), (4, .int (nI ((f0_followFrozen_lp tkv opv shv wyv bdv rov n k sta stc).1)))] [] 53) → GZ p l e R s m args below meth c 5 D A cells slots Q (wC xo nt es ro ad cI cJ cZ ln fz sx mo sn bw tkv opv shv ldv wyv bdv ct dA dA sta stc fev dl dnv rov) [(0, .ref es), (1, .ref nt), (2, .ref ro), (3, .int (nI z)), (4, .int (nI k))] [] 13 := by
  intro n
  induction n with
  | zero =>
    intro k sta stc hme hst hx
    refine gz_iload C 4 dX0_followFrozen_13 rfl ?_
    refine gz_iload_n C 3 dX0_followFrozen_15 rfl ?_
    refine gz_ncmp_ge C 53 (by omega) (by omega) dX0_followFrozen_16 (by decide) (fun h_1 => ?_) (fun h_1 => ?_)
    · skip
      exact gz_lv [0, 1, 2, 3, 4] rfl (hx hme hst)
    · have g_1 : ¬ (z ≤ k) := (Nat.not_le.mpr h_1)
      exfalso; omega
  | succ n ih =>
    intro k sta stc hme hst hx
    refine gz_iload C 4 dX0_followFrozen_13 rfl ?_
    refine gz_iload_n C 3 dX0_followFrozen_15 rfl ?_
    refine gz_ncmp_ge C 53 (by omega) (by omega) dX0_followFrozen_16 (by decide) (fun h_1 => ?_) (fun h_1 => ?_)
    · skip
      exfalso; omega
    · have g_1 : ¬ (z ≤ k) := (Nat.not_le.mpr h_1)
      have hq := hro k (by omega)
      refine gz_aload_n C 0 dX0_followFrozen_19 rfl ?_
      refine gz_aload_n C 1 dX0_followFrozen_20 rfl ?_
      refine gz_aload_n C 0 dX0_followFrozen_21 rfl ?_
      refine gz_get (ci := 1) C iwX0 8 rfl rfl 3 (by decide) wk_66 rfl rfl dX0_followFrozen_22 ?_
      refine gz_aload_n C 0 dX0_followFrozen_25 rfl ?_
      refine gz_get (ci := 1) C iwX0 8 rfl rfl 4 (by decide) wk_67 rfl rfl dX0_followFrozen_26 ?_
      refine gz_aload_n C 2 dX0_followFrozen_29 rfl ?_
      refine gz_iload C 4 dX0_followFrozen_30 rfl ?_
      refine gz_iald C 11 0 rfl rfl (by omega) (by decide) dX0_followFrozen_32 ?_
      refine gz_callV (wr := []) (n := 3) (ws2 := (wC xo nt es ro ad cI cJ cZ ln fz sx mo sn bw tkv opv shv ldv wyv bdv ct dA dA sta stc fev dl dnv rov)) (st2 := [.long (f1_goodLeg tkv opv shv wyv bdv sta stc (rov k)), .ref es]) (cells2 := cells) (slots2 := slots) (ci := 2) C (kX1_goodLeg l D xo nt es ro ad cI cJ cZ ln fz sx mo sn bw tkv opv shv ldv wyv bdv ct dA sta stc fev dl dnv rov sta stc (rov k) (by first | assumption | omega) (by first | assumption | omega)) (WB_V wk_164 wk_165 wk_166 wk_2 wk_167) (by decide +kernel) ⟨⟨rfl, rfl⟩, Nat.le_trans (by decide) hR.1, Nat.le_trans (by decide) hR.2⟩ [0, 1, 2, 3, 4, 5, 6, 7, 8, 9, 10, 11] [] [0, 1, 2] rfl rfl rfl (by decide) rfl 1 rfl rfl rfl rfl (Nat.le_of_ble_eq_true rfl) dX0_followFrozen_33 hce rfl rfl rfl ?_
      refine gz_put (ci := 1) (ws2 := (wC xo nt es ro ad cI cJ cZ ln fz sx mo sn bw tkv opv shv ldv wyv bdv ct dA dA sta (f1_goodLeg tkv opv shv wyv bdv sta stc (rov k)) fev dl dnv rov)) C iwX0 8 rfl rfl 4 (by decide) wk_67 rfl tyX0 tyX0_ok nmX0 rfl rfl rfl rfl (Nat.le_of_ble_eq_true rfl) rfl dX0_followFrozen_36 ?_
      refine gz_aload_n C 0 dX0_followFrozen_39 rfl ?_
      refine gz_aload_n C 2 dX0_followFrozen_40 rfl ?_
      refine gz_iload C 4 dX0_followFrozen_41 rfl ?_
      refine gz_iald C 11 0 rfl rfl (by omega) (by decide) dX0_followFrozen_43 ?_
      refine gz_put (ci := 1) (ws2 := (wC xo nt es ro ad cI cJ cZ ln fz sx mo sn bw tkv opv shv ldv wyv bdv ct dA dA (rov k) (f1_goodLeg tkv opv shv wyv bdv sta stc (rov k)) fev dl dnv rov)) C iwX0 8 rfl rfl 3 (by decide) wk_66 rfl tyX0 tyX0_ok nmX0 rfl rfl rfl rfl (Nat.le_of_ble_eq_true rfl) rfl dX0_followFrozen_44 ?_
      refine gz_iinc (v := nI (k + 1)) (lv2 := [(4, .int (nI (k + 1))), (0, .ref es), (1, .ref nt), (2, .ref ro), (3, .int (nI z))]) (k := 4) C dX0_followFrozen_47 rfl (nI_add _ 1) (by decide) rfl ?_
      refine gz_goto C 13 dX0_followFrozen_50 (by decide) ?_
      refine gz_lv [1, 2, 3, 4, 0] rfl ?_
      simp only [f0_followFrozen_lp, if_neg g_1] at hx
      exact ih (k + 1) (rov k) (f1_goodLeg tkv opv shv wyv bdv sta stc (rov k)) (by omega) (by omega) hx

def f0_followFrozen_sta (tkv : Nat → Int64) (opv : Nat → Int64) (shv : Nat → Int64) (wyv : Nat → Int64) (bdv : Nat → Bool) (rov : Nat → Nat) (z : Nat) : Nat := (f0_followFrozen_lp tkv opv shv wyv bdv rov z 0 0 0).2.1
def f0_followFrozen_stc (tkv : Nat → Int64) (opv : Nat → Int64) (shv : Nat → Int64) (wyv : Nat → Int64) (bdv : Nat → Bool) (rov : Nat → Nat) (z : Nat) : Int64 := (f0_followFrozen_lp tkv opv shv wyv bdv rov z 0 0 0).2.2
set_option maxRecDepth 100000 in
set_option maxHeartbeats 4000000 in
theorem kX0_followFrozen (l : Launch) (D : va_G) (xo : Nat) (nt : Nat) (es : Nat) (ro : Nat) (ad : Nat → Nat) (cI : ClassId) (cJ : ClassId) (cZ : ClassId) (ln : Int32) (fz : Nat) (sx : Bool) (mo : Int32) (sn : Nat) (bw : Int32) (tkv : Nat → Int64) (opv : Nat → Int64) (shv : Nat → Int64) (ldv : Nat → Int32) (wyv : Nat → Int64) (bdv : Nat → Bool) (ct : Nat) (dA : Nat) (sta : Nat) (stc : Int64) (fev : Nat → Nat) (dl : Nat) (dnv : Nat → Int64) (rov : Nat → Nat) (z : Nat) (hz : z ≤ 20) (hro : ∀ k, k < z → rov k ≤ 20) : gz_M l yX0_followFrozen cX0_followFrozen 5 none ({ frames := 3, cells := 0, slots := 0, locals := 73 } : Room) D [(cI, .int), (cJ, .long), (cZ, .boolean)] [.ref es, .ref nt, .ref ro, .int (nI z)] (wC xo nt es ro ad cI cJ cZ ln fz sx mo sn bw tkv opv shv ldv wyv bdv ct dA dA sta stc fev dl dnv rov) (none) (wC xo nt es ro ad cI cJ cZ ln fz sx mo sn bw tkv opv shv ldv wyv bdv ct dA dA (f0_followFrozen_sta tkv opv shv wyv bdv rov z) (f0_followFrozen_stc tkv opv shv wyv bdv rov z) fev dl dnv rov) 0 0 := by
  refine gz_met l (by decide) (Nat.le_of_ble_eq_true rfl) [(0, .ref es), (1, .ref nt), (2, .ref ro), (3, .int (nI z))] rfl ?_
  intro sz p e s m args below meth c C hr hk hnm
  have C : gz_C p s m args c cX0_followFrozen 5 RX0 D [(cI, .int), (cJ, .long), (cZ, .boolean)] (va_A (wC xo nt es ro ad cI cJ cZ ln fz sx mo sn bw tkv opv shv ldv wyv bdv ct dA dA sta stc fev dl dnv rov) sz) := C
  refine gz_aload_n C 0 dX0_followFrozen_0 rfl ?_
  refine gz_iconst (v := nI 0) C dX0_followFrozen_1 (by decide) ?_
  refine gz_put (ci := 1) (ws2 := (wC xo nt es ro ad cI cJ cZ ln fz sx mo sn bw tkv opv shv ldv wyv bdv ct dA dA 0 stc fev dl dnv rov)) C iwX0 8 rfl rfl 3 (by decide) wk_66 rfl tyX0 tyX0_ok nmX0 rfl rfl rfl rfl (Nat.le_of_ble_eq_true rfl) rfl dX0_followFrozen_2 ?_
  refine gz_aload_n C 0 dX0_followFrozen_5 rfl ?_
  refine gz_lconst (v := 0) C dX0_followFrozen_6 (by decide) ?_
  refine gz_put (ci := 1) (ws2 := (wC xo nt es ro ad cI cJ cZ ln fz sx mo sn bw tkv opv shv ldv wyv bdv ct dA dA 0 0 fev dl dnv rov)) C iwX0 8 rfl rfl 4 (by decide) wk_67 rfl tyX0 tyX0_ok nmX0 rfl rfl rfl rfl (Nat.le_of_ble_eq_true rfl) rfl dX0_followFrozen_7 ?_
  refine gz_iconst (v := nI 0) C dX0_followFrozen_10 (by decide) ?_
  refine gz_istore (lv2 := [(4, .int (nI 0)), (0, .ref es), (1, .ref nt), (2, .ref ro), (3, .int (nI z))]) C dX0_followFrozen_11 (by decide) rfl ?_
  refine gz_lv (lv2 := [(0, .ref es), (1, .ref nt), (2, .ref ro), (3, .int (nI z)), (4, .int (nI 0))]) [1, 2, 3, 4, 0] rfl ?_
  refine lX0_followFrozen_lp xo nt es ro ad cI cJ cZ ln fz sx mo sn bw tkv opv shv ldv wyv bdv ct dA fev dl dnv rov z (by first | assumption | omega) (by first | assumption | omega) ⟨Nat.le_of_ble_eq_true rfl, Nat.le_of_ble_eq_true rfl⟩ ⟨Nat.zero_le _, Nat.zero_le _⟩ C z 0 0 0 (by omega) (by first | assumption | omega) ?_
  intro zme_lp zhst_lp
  exact gz_vret C hr hk (by first | rfl | (simp only [f0_followFrozen_sta, f0_followFrozen_stc]) | (simp only [f0_followFrozen_sta, f0_followFrozen_stc]; rfl)) (by first | rfl | (simp only [f0_followFrozen_sta, f0_followFrozen_stc]) | (simp only [f0_followFrozen_sta, f0_followFrozen_stc]; rfl)) (Nat.le_refl _) (Nat.le_refl _) dX0_followFrozen_53

def f0_collectFree_lp (rov : Nat → Nat) (z : Nat) : Nat → Nat → Nat → (Nat → Nat) → Nat × Nat × (Nat → Nat)
  | 0, k, ct, fev => (k, ct, fev)
  | n + 1, k, ct, fev => if 11 ≤ ct then (k, ct, fev) else f0_collectFree_lp rov z n (k + 1) ((if (f1_holds rov z k) = true then ct else ct + 1)) ((if (f1_holds rov z k) = true then fev else va_up fev ct k))
set_option maxRecDepth 100000 in
set_option maxHeartbeats 4000000 in
theorem lX0_collectFree_lp {p : Program} {l : Launch} {e : Env} {R : Room} {s : State} {m : MethodId} {args : Array Value} {below : List Frame} {meth : Method} {c : Code} {cells slots : Nat} {Q : State → Prop} {A : Nat → Prop} {D : va_G} (xo : Nat) (nt : Nat) (es : Nat) (ro : Nat) (ad : Nat → Nat) (cI : ClassId) (cJ : ClassId) (cZ : ClassId) (ln : Int32) (fz : Nat) (sx : Bool) (mo : Int32) (sn : Nat) (bw : Int32) (tkv : Nat → Int64) (opv : Nat → Int64) (shv : Nat → Int64) (ldv : Nat → Int32) (wyv : Nat → Int64) (bdv : Nat → Bool) (dA : Nat) (sta : Nat) (stc : Int64) (dl : Nat) (dnv : Nat → Int64) (rov : Nat → Nat) (z : Nat) (hsn : sn ≤ 20) (hz : z ≤ 20) (hro : ∀ k, k < z → rov k ≤ 20) (hR : 1 ≤ R.frames ∧ 23 ≤ R.locals) (hce : cells ≤ R.cells ∧ slots ≤ R.slots) (C : gz_C p s m args c cX0_collectFree 5 RX0 D [(cI, .int), (cJ, .long), (cZ, .boolean)] A) : ∀ (n : Nat) (k : Nat) (ct : Nat) (fev : Nat → Nat), (k + n = sn + 1) → (ct ≤ 11) → ((((f0_collectFree_lp rov z n k ct fev).2.1) ≤ 11) → GZ p l e R s m args below meth c 5 D A cells slots Q (wC xo nt es ro ad cI cJ cZ ln fz sx mo sn bw tkv opv shv ldv wyv bdv ((f0_collectFree_lp rov z n k ct fev).2.1) dA dA sta stc ((f0_collectFree_lp rov z n k ct fev).2.2) dl dnv rov) [(0, .ref es), (1, .ref nt), (2, .ref ro), (3, .int (nI z)), (4, .int (nI ((f0_collectFree_lp rov z n k ct fev).1)))] [] 63) → GZ p l e R s m args below meth c 5 D A cells slots Q (wC xo nt es ro ad cI cJ cZ ln fz sx mo sn bw tkv opv shv ldv wyv bdv ct dA dA sta stc fev dl dnv rov) [(0, .ref es), (1, .ref nt), (2, .ref ro), (3, .int (nI z)), (4, .int (nI k))] [] 8 := by
  intro n
  induction n with
  | zero =>
    intro k ct fev hme hct hx
    refine gz_iload C 4 dX0_collectFree_8 rfl ?_
    refine gz_aload_n C 1 dX0_collectFree_10 rfl ?_
    refine gz_getN (ci := 2) C iwX1 1 rfl rfl 0 (by decide) (nw_0 C.2.2.2.2.2.2.2) rfl rfl dX0_collectFree_11 ?_
    refine gz_ncmp_gt C 63 (by omega) (by omega) dX0_collectFree_14 (by decide) (fun h_1 => ?_) (fun h_1 => ?_)
    · skip
      exact gz_lv [0, 1, 2, 3, 4] rfl (hx hct)
    · have g_1 : ¬ (sn < k) := (Nat.not_lt.mpr h_1)
      exfalso; omega
  | succ n ih =>
    intro k ct fev hme hct hx
    refine gz_iload C 4 dX0_collectFree_8 rfl ?_
    refine gz_aload_n C 1 dX0_collectFree_10 rfl ?_
    refine gz_getN (ci := 2) C iwX1 1 rfl rfl 0 (by decide) (nw_0 C.2.2.2.2.2.2.2) rfl rfl dX0_collectFree_11 ?_
    refine gz_ncmp_gt C 63 (by omega) (by omega) dX0_collectFree_14 (by decide) (fun h_1 => ?_) (fun h_1 => ?_)
    · skip
      exfalso; omega
    · have g_1 : ¬ (sn < k) := (Nat.not_lt.mpr h_1)
      refine gz_aload_n C 0 dX0_collectFree_17 rfl ?_
      refine gz_get (ci := 1) C iwX0 8 rfl rfl 1 (by decide) wk_64 rfl rfl dX0_collectFree_18 ?_
      refine gz_bipush (v := nI 11) C dX0_collectFree_21 (by decide) ?_
      refine gz_ncmp_ge C 63 (by omega) (by omega) dX0_collectFree_23 (by decide) (fun h_2 => ?_) (fun h_2 => ?_)
      · skip
        simp only [f0_collectFree_lp, if_neg g_1, if_pos h_2] at hx
        exact gz_lv [0, 1, 2, 3, 4] rfl (hx hct)
      · have g_2 : ¬ (11 ≤ ct) := (Nat.not_le.mpr h_2)
        refine gz_aload_n C 2 dX0_collectFree_26 rfl ?_
        refine gz_iload_n C 3 dX0_collectFree_27 rfl ?_
        refine gz_iload C 4 dX0_collectFree_28 rfl ?_
        refine gz_callS (wr := []) (n := 3) (ws2 := (wC xo nt es ro ad cI cJ cZ ln fz sx mo sn bw tkv opv shv ldv wyv bdv ct dA dA sta stc fev dl dnv rov)) (st2 := [.int (bI (f1_holds rov z k))]) (cells2 := cells) (slots2 := slots) C (kX1_holds l D xo nt es ro ad cI cJ cZ ln fz sx mo sn bw tkv opv shv ldv wyv bdv ct dA sta stc fev dl dnv rov z k (by first | assumption | omega) (by first | assumption | omega) (by first | assumption | omega)) (WB_S wk_180 wk_181 wk_2 wk_182) (by decide +kernel) ⟨⟨rfl, rfl⟩, Nat.le_trans (by decide) hR.1, Nat.le_trans (by decide) hR.2⟩ [0, 1, 2, 3, 4, 5, 6, 7, 8, 9, 10, 11] [] [0, 1, 2] rfl rfl rfl (by decide) rfl rfl rfl (Nat.le_of_ble_eq_true rfl) dX0_collectFree_30 hce rfl rfl rfl ?_
        refine gz_J (ws2 := (wC xo nt es ro ad cI cJ cZ ln fz sx mo sn bw tkv opv shv ldv wyv bdv ((if (f1_holds rov z k) = true then ct else ct + 1)) dA dA sta stc ((if (f1_holds rov z k) = true then fev else va_up fev ct k)) dl dnv rov)) (lv2 := [(0, .ref es), (1, .ref nt), (2, .ref ro), (3, .int (nI z)), (4, .int (nI k))]) (st2 := []) (pc2 := 57) ?_ (fun J_3 => ?_)
        rotate_left
        · refine gz_bif_ne C 57 dX0_collectFree_33 (by decide) (fun h_3 => ?_) (fun h_3 => ?_)
          · skip
            simp only [if_pos h_3] at J_3 ⊢
            exact gz_lv [0, 1, 2, 3, 4] rfl J_3
          · have g_3 : ¬ ((f1_holds rov z k) = true) := (by rw [h_3]; decide)
            refine gz_aload_n C 0 dX0_collectFree_36 rfl ?_
            refine gz_get (ci := 1) C iwX0 8 rfl rfl 0 (by decide) wk_63 rfl rfl dX0_collectFree_37 ?_
            refine gz_aload_n C 0 dX0_collectFree_40 rfl ?_
            refine gz_get (ci := 1) C iwX0 8 rfl rfl 1 (by decide) wk_64 rfl rfl dX0_collectFree_41 ?_
            refine gz_iload C 4 dX0_collectFree_44 rfl ?_
            refine gz_iast (ws2 := (wC xo nt es ro ad cI cJ cZ ln fz sx mo sn bw tkv opv shv ldv wyv bdv ct dA dA sta stc (va_up fev ct k) dl dnv rov)) C 9 0 rfl rfl (by omega) (by decide) rfl dX0_collectFree_46 ?_
            refine gz_aload_n C 0 dX0_collectFree_47 rfl ?_
            refine gz_dup C dX0_collectFree_48 rfl ?_
            refine gz_get (ci := 1) C iwX0 8 rfl rfl 1 (by decide) wk_64 rfl rfl dX0_collectFree_49 ?_
            refine gz_iconst (v := nI 1) C dX0_collectFree_52 (by decide) ?_
            refine gz_iadd (v := nI (ct + 1)) C dX0_collectFree_53 (nI_add _ _) ?_
            refine gz_put (ci := 1) (ws2 := (wC xo nt es ro ad cI cJ cZ ln fz sx mo sn bw tkv opv shv ldv wyv bdv (ct + 1) dA dA sta stc (va_up fev ct k) dl dnv rov)) C iwX0 8 rfl rfl 1 (by decide) wk_64 rfl tyX0 tyX0_ok nmX0 rfl rfl rfl rfl (Nat.le_of_ble_eq_true rfl) rfl dX0_collectFree_54 ?_
            simp only [if_neg g_3] at J_3 ⊢
            exact gz_lv [0, 1, 2, 3, 4] rfl J_3
        refine gz_iinc (v := nI (k + 1)) (lv2 := [(4, .int (nI (k + 1))), (0, .ref es), (1, .ref nt), (2, .ref ro), (3, .int (nI z))]) (k := 4) C dX0_collectFree_57 rfl (nI_add _ 1) (by decide) rfl ?_
        refine gz_goto C 8 dX0_collectFree_60 (by decide) ?_
        refine gz_lv [1, 2, 3, 4, 0] rfl ?_
        simp only [f0_collectFree_lp, if_neg g_1, if_neg g_2] at hx
        exact ih (k + 1) ((if (f1_holds rov z k) = true then ct else ct + 1)) ((if (f1_holds rov z k) = true then fev else va_up fev ct k)) (by omega) (by first | omega | (split <;> omega)) hx

def f0_collectFree_ct (sn : Nat) (fev : Nat → Nat) (rov : Nat → Nat) (z : Nat) : Nat := (f0_collectFree_lp rov z sn 1 0 fev).2.1
def f0_collectFree_fev (sn : Nat) (fev : Nat → Nat) (rov : Nat → Nat) (z : Nat) : Nat → Nat := (f0_collectFree_lp rov z sn 1 0 fev).2.2
set_option maxRecDepth 100000 in
set_option maxHeartbeats 4000000 in
theorem kX0_collectFree (l : Launch) (D : va_G) (xo : Nat) (nt : Nat) (es : Nat) (ro : Nat) (ad : Nat → Nat) (cI : ClassId) (cJ : ClassId) (cZ : ClassId) (ln : Int32) (fz : Nat) (sx : Bool) (mo : Int32) (sn : Nat) (bw : Int32) (tkv : Nat → Int64) (opv : Nat → Int64) (shv : Nat → Int64) (ldv : Nat → Int32) (wyv : Nat → Int64) (bdv : Nat → Bool) (ct : Nat) (dA : Nat) (sta : Nat) (stc : Int64) (fev : Nat → Nat) (dl : Nat) (dnv : Nat → Int64) (rov : Nat → Nat) (z : Nat) (hsn : sn ≤ 20) (hz : z ≤ 20) (hro : ∀ k, k < z → rov k ≤ 20) : gz_M l yX0_collectFree cX0_collectFree 5 none ({ frames := 1, cells := 0, slots := 0, locals := 23 } : Room) D [(cI, .int), (cJ, .long), (cZ, .boolean)] [.ref es, .ref nt, .ref ro, .int (nI z)] (wC xo nt es ro ad cI cJ cZ ln fz sx mo sn bw tkv opv shv ldv wyv bdv ct dA dA sta stc fev dl dnv rov) (none) (wC xo nt es ro ad cI cJ cZ ln fz sx mo sn bw tkv opv shv ldv wyv bdv (f0_collectFree_ct sn fev rov z) dA dA sta stc (f0_collectFree_fev sn fev rov z) dl dnv rov) 0 0 := by
  refine gz_met l (by decide) (Nat.le_of_ble_eq_true rfl) [(0, .ref es), (1, .ref nt), (2, .ref ro), (3, .int (nI z))] rfl ?_
  intro sz p e s m args below meth c C hr hk hnm
  have C : gz_C p s m args c cX0_collectFree 5 RX0 D [(cI, .int), (cJ, .long), (cZ, .boolean)] (va_A (wC xo nt es ro ad cI cJ cZ ln fz sx mo sn bw tkv opv shv ldv wyv bdv ct dA dA sta stc fev dl dnv rov) sz) := C
  refine gz_aload_n C 0 dX0_collectFree_0 rfl ?_
  refine gz_iconst (v := nI 0) C dX0_collectFree_1 (by decide) ?_
  refine gz_put (ci := 1) (ws2 := (wC xo nt es ro ad cI cJ cZ ln fz sx mo sn bw tkv opv shv ldv wyv bdv 0 dA dA sta stc fev dl dnv rov)) C iwX0 8 rfl rfl 1 (by decide) wk_64 rfl tyX0 tyX0_ok nmX0 rfl rfl rfl rfl (Nat.le_of_ble_eq_true rfl) rfl dX0_collectFree_2 ?_
  refine gz_iconst (v := nI 1) C dX0_collectFree_5 (by decide) ?_
  refine gz_istore (lv2 := [(4, .int (nI 1)), (0, .ref es), (1, .ref nt), (2, .ref ro), (3, .int (nI z))]) C dX0_collectFree_6 (by decide) rfl ?_
  refine gz_lv (lv2 := [(0, .ref es), (1, .ref nt), (2, .ref ro), (3, .int (nI z)), (4, .int (nI 1))]) [1, 2, 3, 4, 0] rfl ?_
  refine lX0_collectFree_lp xo nt es ro ad cI cJ cZ ln fz sx mo sn bw tkv opv shv ldv wyv bdv dA sta stc dl dnv rov z (by first | assumption | omega) (by first | assumption | omega) (by first | assumption | omega) ⟨Nat.le_of_ble_eq_true rfl, Nat.le_of_ble_eq_true rfl⟩ ⟨Nat.zero_le _, Nat.zero_le _⟩ C sn 1 0 fev (by omega) (by first | assumption | omega) ?_
  intro zhct_lp
  exact gz_vret C hr hk (by first | rfl | (simp only [f0_collectFree_ct, f0_collectFree_fev]) | (simp only [f0_collectFree_ct, f0_collectFree_fev]; rfl)) (by first | rfl | (simp only [f0_collectFree_ct, f0_collectFree_fev]) | (simp only [f0_collectFree_ct, f0_collectFree_fev]; rfl)) (Nat.le_refl _) (Nat.le_refl _) dX0_collectFree_63

def f0_earliest_lp (tkv : Nat → Int64) (opv : Nat → Int64) (shv : Nat → Int64) (wyv : Nat → Int64) (bdv : Nat → Bool) (ct : Nat) (fev : Nat → Nat) (dnv : Nat → Int64) (t : Nat) (b : Nat) : Nat → Int64 → Nat → Int64 × Nat
  | 0, le, k => (le, k)
  | n + 1, le, k => f0_earliest_lp tkv opv shv wyv bdv ct fev dnv t b n ((if (f0_has t k) = true then (if f1_goodLeg tkv opv shv wyv bdv (fev k) (dnv ((t * ct) + k)) b < le then f1_goodLeg tkv opv shv wyv bdv (fev k) (dnv ((t * ct) + k)) b else le) else le)) (k + 1)
set_option maxRecDepth 100000 in
set_option maxHeartbeats 4000000 in
theorem lX0_earliest_lp {p : Program} {l : Launch} {e : Env} {R : Room} {s : State} {m : MethodId} {args : Array Value} {below : List Frame} {meth : Method} {c : Code} {cells slots : Nat} {Q : State → Prop} {A : Nat → Prop} {D : va_G} (xo : Nat) (nt : Nat) (es : Nat) (ro : Nat) (ad : Nat → Nat) (cI : ClassId) (cJ : ClassId) (cZ : ClassId) (ln : Int32) (fz : Nat) (sx : Bool) (mo : Int32) (sn : Nat) (bw : Int32) (tkv : Nat → Int64) (opv : Nat → Int64) (shv : Nat → Int64) (ldv : Nat → Int32) (wyv : Nat → Int64) (bdv : Nat → Bool) (ct : Nat) (dA : Nat) (sta : Nat) (stc : Int64) (fev : Nat → Nat) (dl : Nat) (dnv : Nat → Int64) (rov : Nat → Nat) (t : Nat) (b : Nat) (hct : ct ≤ 11) (hfe : ∀ k, k < ct → fev k ≤ 20) (hsa : sta ≤ 20) (hdl : 2 ^ ct * ct ≤ dl) (hdm : dl ≤ 22528) (ht : t < 2 ^ ct) (hb : b ≤ 20) (hR : 3 ≤ R.frames ∧ 73 ≤ R.locals) (hce : cells ≤ R.cells ∧ slots ≤ R.slots) (C : gz_C p s m args c cX0_earliest 7 RX0 D [(cI, .int), (cJ, .long), (cZ, .boolean)] A) : ∀ (n : Nat) (le : Int64) (k : Nat), (k + n = ct) → ((((f0_earliest_lp tkv opv shv wyv bdv ct fev dnv t b n le k).2) + 0 = ct) → GZ p l e R s m args below meth c 7 D A cells slots Q (wC xo nt es ro ad cI cJ cZ ln fz sx mo sn bw tkv opv shv ldv wyv bdv ct dA dA sta stc fev dl dnv rov) [(0, .ref es), (1, .ref nt), (2, .int (nI t)), (3, .int (nI b)), (4, .long ((f0_earliest_lp tkv opv shv wyv bdv ct fev dnv t b n le k).1)), (6, .int (nI ((f0_earliest_lp tkv opv shv wyv bdv ct fev dnv t b n le k).2)))] [] 83) → GZ p l e R s m args below meth c 7 D A cells slots Q (wC xo nt es ro ad cI cJ cZ ln fz sx mo sn bw tkv opv shv ldv wyv bdv ct dA dA sta stc fev dl dnv rov) [(0, .ref es), (1, .ref nt), (2, .int (nI t)), (3, .int (nI b)), (4, .long le), (6, .int (nI k))] [] 26 := by
  intro n
  induction n with
  | zero =>
    intro le k hme  hx
    refine gz_iload C 5 dX0_earliest_26 rfl ?_
    refine gz_aload_n C 0 dX0_earliest_28 rfl ?_
    refine gz_get (ci := 1) C iwX0 8 rfl rfl 1 (by decide) wk_64 rfl rfl dX0_earliest_29 ?_
    refine gz_ncmp_ge C 83 (by omega) (by omega) dX0_earliest_32 (by decide) (fun h_1 => ?_) (fun h_1 => ?_)
    · skip
      exact gz_lv [0, 1, 2, 3, 4, 5] rfl (hx hme )
    · have g_1 : ¬ (ct ≤ k) := (Nat.not_le.mpr h_1)
      exfalso; omega
  | succ n ih =>
    intro le k hme  hx
    refine gz_iload C 5 dX0_earliest_26 rfl ?_
    refine gz_aload_n C 0 dX0_earliest_28 rfl ?_
    refine gz_get (ci := 1) C iwX0 8 rfl rfl 1 (by decide) wk_64 rfl rfl dX0_earliest_29 ?_
    refine gz_ncmp_ge C 83 (by omega) (by omega) dX0_earliest_32 (by decide) (fun h_1 => ?_) (fun h_1 => ?_)
    · skip
      exfalso; omega
    · have g_1 : ¬ (ct ≤ k) := (Nat.not_le.mpr h_1)
      have hq := hfe k (by omega)
      have hp := bz_pow hct
      refine gz_iload_n C 2 dX0_earliest_35 rfl ?_
      refine gz_iload C 5 dX0_earliest_36 rfl ?_
      refine gz_callS (wr := []) (n := 2) (ws2 := (wC xo nt es ro ad cI cJ cZ ln fz sx mo sn bw tkv opv shv ldv wyv bdv ct dA dA sta stc fev dl dnv rov)) (st2 := [.int (bI (f0_has t k))]) (cells2 := cells) (slots2 := slots) C (kX0_has l D xo nt es ro ad cI cJ cZ ln fz sx mo sn bw tkv opv shv ldv wyv bdv ct dA sta stc fev dl dnv rov t k (by first | assumption | omega) (by first | assumption | omega)) (WB_S wk_187 wk_188 wk_3 wk_189) (by decide +kernel) ⟨⟨rfl, rfl⟩, Nat.le_trans (by decide) hR.1, Nat.le_trans (by decide) hR.2⟩ [0, 1, 2, 3, 4, 5, 6, 7, 8, 9, 10, 11] [] [0, 1, 2] rfl rfl rfl (by decide) rfl rfl rfl (Nat.le_of_ble_eq_true rfl) dX0_earliest_38 hce rfl rfl rfl ?_
      refine gz_J (ws2 := (wC xo nt es ro ad cI cJ cZ ln fz sx mo sn bw tkv opv shv ldv wyv bdv ct dA dA sta stc fev dl dnv rov)) (lv2 := [(4, .long ((if (f0_has t k) = true then (if f1_goodLeg tkv opv shv wyv bdv (fev k) (dnv ((t * ct) + k)) b < le then f1_goodLeg tkv opv shv wyv bdv (fev k) (dnv ((t * ct) + k)) b else le) else le))), (0, .ref es), (1, .ref nt), (2, .int (nI t)), (3, .int (nI b)), (6, .int (nI k))]) (st2 := []) (pc2 := 77) ?_ (fun J_2 => ?_)
      rotate_left
      · refine gz_bif_eq C 77 dX0_earliest_41 (by decide) (fun h_2 => ?_) (fun h_2 => ?_)
        · have g_2 : ¬ ((f0_has t k) = true) := (by rw [h_2]; decide)
          simp only [if_neg g_2] at J_2 ⊢
          exact gz_lv [4, 0, 1, 2, 3, 5] rfl J_2
        · skip
          refine gz_lload C 4 dX0_earliest_44 rfl ?_
          refine gz_aload_n C 1 dX0_earliest_46 rfl ?_
          refine gz_aload_n C 0 dX0_earliest_47 rfl ?_
          refine gz_get (ci := 1) C iwX0 8 rfl rfl 0 (by decide) wk_63 rfl rfl dX0_earliest_48 ?_
          refine gz_iload C 5 dX0_earliest_51 rfl ?_
          refine gz_iald C 9 0 rfl rfl (by omega) (by decide) dX0_earliest_53 ?_
          refine gz_aload_n C 0 dX0_earliest_54 rfl ?_
          refine gz_get (ci := 1) C iwX0 8 rfl rfl 2 (by decide) wk_65 rfl rfl dX0_earliest_55 ?_
          refine gz_iload_n C 2 dX0_earliest_58 rfl ?_
          refine gz_aload_n C 0 dX0_earliest_59 rfl ?_
          refine gz_get (ci := 1) C iwX0 8 rfl rfl 1 (by decide) wk_64 rfl rfl dX0_earliest_60 ?_
          refine gz_imul (v := nI (t * ct)) C dX0_earliest_63 (pk_mul _ _) ?_
          refine gz_iload C 5 dX0_earliest_64 rfl ?_
          refine gz_iadd (v := nI ((t * ct) + k)) C dX0_earliest_66 (nI_add _ _) ?_
          refine gz_lald C 10 1 rfl rfl (bz_ix ht (by omega) hdl) (by omega) dX0_earliest_67 ?_
          refine gz_iload_n C 3 dX0_earliest_68 rfl ?_
          refine gz_callV (wr := []) (n := 3) (ws2 := (wC xo nt es ro ad cI cJ cZ ln fz sx mo sn bw tkv opv shv ldv wyv bdv ct dA dA sta stc fev dl dnv rov)) (st2 := [.long (f1_goodLeg tkv opv shv wyv bdv (fev k) (dnv ((t * ct) + k)) b), .long le]) (cells2 := cells) (slots2 := slots) (ci := 2) C (kX1_goodLeg l D xo nt es ro ad cI cJ cZ ln fz sx mo sn bw tkv opv shv ldv wyv bdv ct dA sta stc fev dl dnv rov (fev k) (dnv ((t * ct) + k)) b (by first | assumption | omega) (by first | assumption | omega)) (WB_V wk_164 wk_165 wk_166 wk_2 wk_167) (by decide +kernel) ⟨⟨rfl, rfl⟩, Nat.le_trans (by decide) hR.1, Nat.le_trans (by decide) hR.2⟩ [0, 1, 2, 3, 4, 5, 6, 7, 8, 9, 10, 11] [] [0, 1, 2] rfl rfl rfl (by decide) rfl 1 rfl rfl rfl rfl (Nat.le_of_ble_eq_true rfl) dX0_earliest_69 hce rfl rfl rfl ?_
          refine gz_mmin_long (v := (if f1_goodLeg tkv opv shv wyv bdv (fev k) (dnv ((t * ct) + k)) b < le then f1_goodLeg tkv opv shv wyv bdv (fev k) (dnv ((t * ct) + k)) b else le)) C wk_194 wk_195 wk_5 wk_196 (Nat.le_trans (by decide) hR.1) (Nat.le_trans (by decide) hR.2) hce.1 hce.2 dX0_earliest_72 rfl ?_
          refine gz_lstore (lv2 := [(4, .long ((if f1_goodLeg tkv opv shv wyv bdv (fev k) (dnv ((t * ct) + k)) b < le then f1_goodLeg tkv opv shv wyv bdv (fev k) (dnv ((t * ct) + k)) b else le))), (0, .ref es), (1, .ref nt), (2, .int (nI t)), (3, .int (nI b)), (6, .int (nI k))]) C dX0_earliest_75 (by decide) rfl ?_
          simp only [if_pos h_2] at J_2 ⊢
          exact gz_lv [0, 1, 2, 3, 4, 5] rfl J_2
      refine gz_iinc (v := nI (k + 1)) (lv2 := [(6, .int (nI (k + 1))), (4, .long ((if (f0_has t k) = true then (if f1_goodLeg tkv opv shv wyv bdv (fev k) (dnv ((t * ct) + k)) b < le then f1_goodLeg tkv opv shv wyv bdv (fev k) (dnv ((t * ct) + k)) b else le) else le))), (0, .ref es), (1, .ref nt), (2, .int (nI t)), (3, .int (nI b))]) (k := 5) C dX0_earliest_77 rfl (nI_add _ 1) (by decide) rfl ?_
      refine gz_goto C 26 dX0_earliest_80 (by decide) ?_
      refine gz_lv [2, 3, 4, 5, 1, 0] rfl ?_
      simp only [f0_earliest_lp, if_neg g_1] at hx
      exact ih ((if (f0_has t k) = true then (if f1_goodLeg tkv opv shv wyv bdv (fev k) (dnv ((t * ct) + k)) b < le then f1_goodLeg tkv opv shv wyv bdv (fev k) (dnv ((t * ct) + k)) b else le) else le)) (k + 1) (by omega)  hx

def f0_earliest (tkv : Nat → Int64) (opv : Nat → Int64) (shv : Nat → Int64) (wyv : Nat → Int64) (bdv : Nat → Bool) (ct : Nat) (sta : Nat) (stc : Int64) (fev : Nat → Nat) (dnv : Nat → Int64) (t : Nat) (b : Nat) : Int64 := (if t = 0 then f1_goodLeg tkv opv shv wyv bdv sta stc b else (f0_earliest_lp tkv opv shv wyv bdv ct fev dnv t b ct 1000000000000000 0).1)
set_option maxRecDepth 100000 in
set_option maxHeartbeats 4000000 in
theorem kX0_earliest (l : Launch) (D : va_G) (xo : Nat) (nt : Nat) (es : Nat) (ro : Nat) (ad : Nat → Nat) (cI : ClassId) (cJ : ClassId) (cZ : ClassId) (ln : Int32) (fz : Nat) (sx : Bool) (mo : Int32) (sn : Nat) (bw : Int32) (tkv : Nat → Int64) (opv : Nat → Int64) (shv : Nat → Int64) (ldv : Nat → Int32) (wyv : Nat → Int64) (bdv : Nat → Bool) (ct : Nat) (dA : Nat) (sta : Nat) (stc : Int64) (fev : Nat → Nat) (dl : Nat) (dnv : Nat → Int64) (rov : Nat → Nat) (t : Nat) (b : Nat) (hct : ct ≤ 11) (hfe : ∀ k, k < ct → fev k ≤ 20) (hsa : sta ≤ 20) (hdl : 2 ^ ct * ct ≤ dl) (hdm : dl ≤ 22528) (ht : t < 2 ^ ct) (hb : b ≤ 20) : gz_M l yX0_earliest cX0_earliest 7 (some .long) ({ frames := 3, cells := 0, slots := 0, locals := 73 } : Room) D [(cI, .int), (cJ, .long), (cZ, .boolean)] [.ref es, .ref nt, .int (nI t), .int (nI b)] (wC xo nt es ro ad cI cJ cZ ln fz sx mo sn bw tkv opv shv ldv wyv bdv ct dA dA sta stc fev dl dnv rov) (some (.long (f0_earliest tkv opv shv wyv bdv ct sta stc fev dnv t b))) (wC xo nt es ro ad cI cJ cZ ln fz sx mo sn bw tkv opv shv ldv wyv bdv ct dA dA sta stc fev dl dnv rov) 0 0 := by
  refine gz_met l (by decide) (Nat.le_of_ble_eq_true rfl) [(0, .ref es), (1, .ref nt), (2, .int (nI t)), (3, .int (nI b))] rfl ?_
  intro sz p e s m args below meth c C hr hk hnm
  have C : gz_C p s m args c cX0_earliest 7 RX0 D [(cI, .int), (cJ, .long), (cZ, .boolean)] (va_A (wC xo nt es ro ad cI cJ cZ ln fz sx mo sn bw tkv opv shv ldv wyv bdv ct dA dA sta stc fev dl dnv rov) sz) := C
  have hp := bz_pow hct
  refine gz_iload_n C 2 dX0_earliest_0 rfl ?_
  refine gz_nif_ne C 18 (by omega) dX0_earliest_1 (by decide) (fun h_1 => ?_) (fun h_1 => ?_)
  · have g_1 : ¬ (t = 0) := h_1
    refine gz_ldc2 (v := 1000000000000000) C wk_175 dX0_earliest_18 ?_
    refine gz_lstore (lv2 := [(4, .long 1000000000000000), (0, .ref es), (1, .ref nt), (2, .int (nI t)), (3, .int (nI b))]) C dX0_earliest_21 (by decide) rfl ?_
    refine gz_iconst (v := nI 0) C dX0_earliest_23 (by decide) ?_
    refine gz_istore (lv2 := [(6, .int (nI 0)), (4, .long 1000000000000000), (0, .ref es), (1, .ref nt), (2, .int (nI t)), (3, .int (nI b))]) C dX0_earliest_24 (by decide) rfl ?_
    refine gz_lv (lv2 := [(0, .ref es), (1, .ref nt), (2, .int (nI t)), (3, .int (nI b)), (4, .long 1000000000000000), (6, .int (nI 0))]) [2, 3, 4, 5, 1, 0] rfl ?_
    refine lX0_earliest_lp xo nt es ro ad cI cJ cZ ln fz sx mo sn bw tkv opv shv ldv wyv bdv ct dA sta stc fev dl dnv rov t b (by first | assumption | omega) (by first | assumption | omega) (by first | assumption | omega) (by first | assumption | omega) (by first | assumption | omega) (by first | assumption | omega) (by first | assumption | omega) ⟨Nat.le_of_ble_eq_true rfl, Nat.le_of_ble_eq_true rfl⟩ ⟨Nat.zero_le _, Nat.zero_le _⟩ C ct 1000000000000000 0 (by omega)  ?_
    intro zme_lp
    refine gz_lload C 4 dX0_earliest_83 rfl ?_
    exact gz_lret C hr hk (by first | rfl | (simp only [f0_earliest, if_neg g_1]) | (simp only [f0_earliest, if_neg g_1]; rfl)) rfl (Nat.le_refl _) (Nat.le_refl _) dX0_earliest_85
  · skip
    refine gz_aload_n C 1 dX0_earliest_4 rfl ?_
    refine gz_aload_n C 0 dX0_earliest_5 rfl ?_
    refine gz_get (ci := 1) C iwX0 8 rfl rfl 3 (by decide) wk_66 rfl rfl dX0_earliest_6 ?_
    refine gz_aload_n C 0 dX0_earliest_9 rfl ?_
    refine gz_get (ci := 1) C iwX0 8 rfl rfl 4 (by decide) wk_67 rfl rfl dX0_earliest_10 ?_
    refine gz_iload_n C 3 dX0_earliest_13 rfl ?_
    refine gz_callV (wr := []) (n := 3) (ws2 := (wC xo nt es ro ad cI cJ cZ ln fz sx mo sn bw tkv opv shv ldv wyv bdv ct dA dA sta stc fev dl dnv rov)) (st2 := [.long (f1_goodLeg tkv opv shv wyv bdv sta stc b)]) (cells2 := 0) (slots2 := 0) (ci := 2) C (kX1_goodLeg l D xo nt es ro ad cI cJ cZ ln fz sx mo sn bw tkv opv shv ldv wyv bdv ct dA sta stc fev dl dnv rov sta stc b (by first | assumption | omega) (by first | assumption | omega)) (WB_V wk_164 wk_165 wk_166 wk_2 wk_167) (by decide +kernel) ⟨⟨rfl, rfl⟩, Nat.le_of_ble_eq_true rfl, Nat.le_of_ble_eq_true rfl⟩ [0, 1, 2, 3, 4, 5, 6, 7, 8, 9, 10, 11] [] [0, 1, 2] rfl rfl rfl (by decide) rfl 1 rfl rfl rfl rfl (Nat.le_of_ble_eq_true rfl) dX0_earliest_14 ⟨Nat.zero_le _, Nat.zero_le _⟩ rfl rfl rfl ?_
    exact gz_lret C hr hk (by first | rfl | (simp only [f0_earliest, if_pos h_1]) | (simp only [f0_earliest, if_pos h_1]; rfl)) rfl (Nat.le_refl _) (Nat.le_refl _) dX0_earliest_17

def f0_fits (tkv : Nat → Int64) (opv : Nat → Int64) (shv : Nat → Int64) (wyv : Nat → Int64) (bdv : Nat → Bool) (ct : Nat) (fev : Nat → Nat) (dnv : Nat → Int64) (t : Nat) (k : Nat) (b : Nat) (du : Int64) : Bool := (if (f0_has t k) = true then (if (f1_goodLeg tkv opv shv wyv bdv (fev k) (dnv ((t * ct) + k)) b) = du then true else false) else false)
set_option maxRecDepth 100000 in
set_option maxHeartbeats 4000000 in
theorem kX0_fits (l : Launch) (D : va_G) (xo : Nat) (nt : Nat) (es : Nat) (ro : Nat) (ad : Nat → Nat) (cI : ClassId) (cJ : ClassId) (cZ : ClassId) (ln : Int32) (fz : Nat) (sx : Bool) (mo : Int32) (sn : Nat) (bw : Int32) (tkv : Nat → Int64) (opv : Nat → Int64) (shv : Nat → Int64) (ldv : Nat → Int32) (wyv : Nat → Int64) (bdv : Nat → Bool) (ct : Nat) (dA : Nat) (sta : Nat) (stc : Int64) (fev : Nat → Nat) (dl : Nat) (dnv : Nat → Int64) (rov : Nat → Nat) (t : Nat) (k : Nat) (b : Nat) (du : Int64) (hct : ct ≤ 11) (hfe : ∀ k, k < ct → fev k ≤ 20) (hsa : sta ≤ 20) (hdl : 2 ^ ct * ct ≤ dl) (hdm : dl ≤ 22528) (ht : t < 2 ^ ct) (hkc : k < ct) (hb : b ≤ 20) : gz_M l yX0_fits cX0_fits 7 (some .boolean) ({ frames := 3, cells := 0, slots := 0, locals := 73 } : Room) D [(cI, .int), (cJ, .long), (cZ, .boolean)] [.ref es, .ref nt, .int (nI t), .int (nI k), .int (nI b), .long du] (wC xo nt es ro ad cI cJ cZ ln fz sx mo sn bw tkv opv shv ldv wyv bdv ct dA dA sta stc fev dl dnv rov) (some (.int (bI (f0_fits tkv opv shv wyv bdv ct fev dnv t k b du)))) (wC xo nt es ro ad cI cJ cZ ln fz sx mo sn bw tkv opv shv ldv wyv bdv ct dA dA sta stc fev dl dnv rov) 0 0 := by
  refine gz_met l (by decide) (Nat.le_of_ble_eq_true rfl) [(0, .ref es), (1, .ref nt), (2, .int (nI t)), (3, .int (nI k)), (4, .int (nI b)), (5, .long du)] rfl ?_
  intro sz p e s m args below meth c C hr hk hnm
  have C : gz_C p s m args c cX0_fits 7 RX0 D [(cI, .int), (cJ, .long), (cZ, .boolean)] (va_A (wC xo nt es ro ad cI cJ cZ ln fz sx mo sn bw tkv opv shv ldv wyv bdv ct dA dA sta stc fev dl dnv rov) sz) := C
  have hq := hfe k hkc
  have hp := bz_pow hct
  refine gz_iload_n C 2 dX0_fits_0 rfl ?_
  refine gz_iload_n C 3 dX0_fits_1 rfl ?_
  refine gz_callS (wr := []) (n := 2) (ws2 := (wC xo nt es ro ad cI cJ cZ ln fz sx mo sn bw tkv opv shv ldv wyv bdv ct dA dA sta stc fev dl dnv rov)) (st2 := [.int (bI (f0_has t k))]) (cells2 := 0) (slots2 := 0) C (kX0_has l D xo nt es ro ad cI cJ cZ ln fz sx mo sn bw tkv opv shv ldv wyv bdv ct dA sta stc fev dl dnv rov t k (by first | assumption | omega) (by first | assumption | omega)) (WB_S wk_187 wk_188 wk_3 wk_189) (by decide +kernel) ⟨⟨rfl, rfl⟩, Nat.le_of_ble_eq_true rfl, Nat.le_of_ble_eq_true rfl⟩ [0, 1, 2, 3, 4, 5, 6, 7, 8, 9, 10, 11] [] [0, 1, 2] rfl rfl rfl (by decide) rfl rfl rfl (Nat.le_of_ble_eq_true rfl) dX0_fits_2 ⟨Nat.zero_le _, Nat.zero_le _⟩ rfl rfl rfl ?_
  refine gz_J (ws2 := (wC xo nt es ro ad cI cJ cZ ln fz sx mo sn bw tkv opv shv ldv wyv bdv ct dA dA sta stc fev dl dnv rov)) (lv2 := [(0, .ref es), (1, .ref nt), (2, .int (nI t)), (3, .int (nI k)), (4, .int (nI b)), (5, .long du)]) (st2 := [.int (nI ((if (f0_has t k) = true then (if (f1_goodLeg tkv opv shv wyv bdv (fev k) (dnv ((t * ct) + k)) b) = du then 1 else 0) else 0)))]) (pc2 := 44) ?_ (fun J_1 => ?_)
  rotate_left
  · refine gz_bif_eq C 43 dX0_fits_5 (by decide) (fun h_1 => ?_) (fun h_1 => ?_)
    · have g_1 : ¬ ((f0_has t k) = true) := (by rw [h_1]; decide)
      refine gz_iconst (v := nI 0) C dX0_fits_43 (by decide) ?_
      simp only [if_neg g_1] at J_1 ⊢
      exact gz_lv [0, 1, 2, 3, 4, 5] rfl J_1
    · skip
      refine gz_aload_n C 1 dX0_fits_8 rfl ?_
      refine gz_aload_n C 0 dX0_fits_9 rfl ?_
      refine gz_get (ci := 1) C iwX0 8 rfl rfl 0 (by decide) wk_63 rfl rfl dX0_fits_10 ?_
      refine gz_iload_n C 3 dX0_fits_13 rfl ?_
      refine gz_iald C 9 0 rfl rfl (by omega) (by decide) dX0_fits_14 ?_
      refine gz_aload_n C 0 dX0_fits_15 rfl ?_
      refine gz_get (ci := 1) C iwX0 8 rfl rfl 2 (by decide) wk_65 rfl rfl dX0_fits_16 ?_
      refine gz_iload_n C 2 dX0_fits_19 rfl ?_
      refine gz_aload_n C 0 dX0_fits_20 rfl ?_
      refine gz_get (ci := 1) C iwX0 8 rfl rfl 1 (by decide) wk_64 rfl rfl dX0_fits_21 ?_
      refine gz_imul (v := nI (t * ct)) C dX0_fits_24 (pk_mul _ _) ?_
      refine gz_iload_n C 3 dX0_fits_25 rfl ?_
      refine gz_iadd (v := nI ((t * ct) + k)) C dX0_fits_26 (nI_add _ _) ?_
      refine gz_lald C 10 1 rfl rfl (bz_ix ht hkc hdl) (by omega) dX0_fits_27 ?_
      refine gz_iload C 4 dX0_fits_28 rfl ?_
      refine gz_callV (wr := []) (n := 3) (ws2 := (wC xo nt es ro ad cI cJ cZ ln fz sx mo sn bw tkv opv shv ldv wyv bdv ct dA dA sta stc fev dl dnv rov)) (st2 := [.long (f1_goodLeg tkv opv shv wyv bdv (fev k) (dnv ((t * ct) + k)) b)]) (cells2 := 0) (slots2 := 0) (ci := 2) C (kX1_goodLeg l D xo nt es ro ad cI cJ cZ ln fz sx mo sn bw tkv opv shv ldv wyv bdv ct dA sta stc fev dl dnv rov (fev k) (dnv ((t * ct) + k)) b (by first | assumption | omega) (by first | assumption | omega)) (WB_V wk_164 wk_165 wk_166 wk_2 wk_167) (by decide +kernel) ⟨⟨rfl, rfl⟩, Nat.le_of_ble_eq_true rfl, Nat.le_of_ble_eq_true rfl⟩ [0, 1, 2, 3, 4, 5, 6, 7, 8, 9, 10, 11] [] [0, 1, 2] rfl rfl rfl (by decide) rfl 1 rfl rfl rfl rfl (Nat.le_of_ble_eq_true rfl) dX0_fits_30 ⟨Nat.zero_le _, Nat.zero_le _⟩ rfl rfl rfl ?_
      refine gz_lload C 5 dX0_fits_33 rfl ?_
      refine gz_J (ws2 := (wC xo nt es ro ad cI cJ cZ ln fz sx mo sn bw tkv opv shv ldv wyv bdv ct dA dA sta stc fev dl dnv rov)) (lv2 := [(0, .ref es), (1, .ref nt), (2, .int (nI t)), (3, .int (nI k)), (4, .int (nI b)), (5, .long du)]) (st2 := [.int (nI ((if (f1_goodLeg tkv opv shv wyv bdv (fev k) (dnv ((t * ct) + k)) b) = du then 1 else 0)))]) (pc2 := 44) ?_ (fun J_2 => ?_)
      rotate_left
      · refine gz_lcmp_ne C 43 dX0_fits_35 dX0_fits_36 (by decide) (fun h_2 => ?_) (fun h_2 => ?_)
        · have g_2 : ¬ ((f1_goodLeg tkv opv shv wyv bdv (fev k) (dnv ((t * ct) + k)) b) = du) := h_2
          refine gz_iconst (v := nI 0) C dX0_fits_43 (by decide) ?_
          simp only [if_neg g_2] at J_2 ⊢
          exact gz_lv [0, 1, 2, 3, 4, 5] rfl J_2
        · skip
          refine gz_iconst (v := nI 1) C dX0_fits_39 (by decide) ?_
          refine gz_goto C 44 dX0_fits_40 (by decide) ?_
          simp only [if_pos h_2] at J_2 ⊢
          exact gz_lv [0, 1, 2, 3, 4, 5] rfl J_2
      simp only [if_pos h_1] at J_1 ⊢
      exact gz_lv [0, 1, 2, 3, 4, 5] rfl J_1
  refine gz_sw (v := .int (nI ((if (f0_has t k) = true then (if (f1_goodLeg tkv opv shv wyv bdv (fev k) (dnv ((t * ct) + k)) b) = du then 1 else 0) else 0)))) (w := .int (bI ((if (f0_has t k) = true then (if (f1_goodLeg tkv opv shv wyv bdv (fev k) (dnv ((t * ct) + k)) b) = du then true else false) else false)))) (by rw [show nI ((if (f0_has t k) = true then (if (f1_goodLeg tkv opv shv wyv bdv (fev k) (dnv ((t * ct) + k)) b) = du then 1 else 0) else 0)) = bI ((if (f0_has t k) = true then (if (f1_goodLeg tkv opv shv wyv bdv (fev k) (dnv ((t * ct) + k)) b) = du then true else false) else false)) from (by first | rfl | decide | ((repeat' split) <;> rfl))]) ?_
  exact gz_zret C hr hk (bI_nar _) (by first | rfl | (simp only [f0_fits]) | (simp only [f0_fits]; rfl)) rfl (Nat.le_refl _) (Nat.le_refl _) dX0_fits_44

def f0_leastLast_lp (tkv : Nat → Int64) (opv : Nat → Int64) (shv : Nat → Int64) (wyv : Nat → Int64) (bdv : Nat → Bool) (ct : Nat) (fev : Nat → Nat) (dnv : Nat → Int64) (t : Nat) (b : Nat) (du : Int64) : Nat → Nat → Nat
  | 0, k => k
  | n + 1, k => if (f0_fits tkv opv shv wyv bdv ct fev dnv t k b du) = true then k else f0_leastLast_lp tkv opv shv wyv bdv ct fev dnv t b du n (k + 1)
set_option maxRecDepth 100000 in
set_option maxHeartbeats 4000000 in
theorem lX0_leastLast_lp {p : Program} {l : Launch} {e : Env} {R : Room} {s : State} {m : MethodId} {args : Array Value} {below : List Frame} {meth : Method} {c : Code} {cells slots : Nat} {Q : State → Prop} {A : Nat → Prop} {D : va_G} (xo : Nat) (nt : Nat) (es : Nat) (ro : Nat) (ad : Nat → Nat) (cI : ClassId) (cJ : ClassId) (cZ : ClassId) (ln : Int32) (fz : Nat) (sx : Bool) (mo : Int32) (sn : Nat) (bw : Int32) (tkv : Nat → Int64) (opv : Nat → Int64) (shv : Nat → Int64) (ldv : Nat → Int32) (wyv : Nat → Int64) (bdv : Nat → Bool) (ct : Nat) (dA : Nat) (sta : Nat) (stc : Int64) (fev : Nat → Nat) (dl : Nat) (dnv : Nat → Int64) (rov : Nat → Nat) (t : Nat) (b : Nat) (du : Int64) (hct : ct ≤ 11) (hfe : ∀ k, k < ct → fev k ≤ 20) (hsa : sta ≤ 20) (hdl : 2 ^ ct * ct ≤ dl) (hdm : dl ≤ 22528) (ht : t < 2 ^ ct) (hb : b ≤ 20) (h1 : 1 ≤ ct) (hR : 4 ≤ R.frames ∧ 99 ≤ R.locals) (hce : cells ≤ R.cells ∧ slots ≤ R.slots) (C : gz_C p s m args c cX0_leastLast 7 RX0 D [(cI, .int), (cJ, .long), (cZ, .boolean)] A) : ∀ (n : Nat) (k : Nat), (k + n = ct - 1) → (GZ p l e R s m args below meth c 7 D A cells slots Q (wC xo nt es ro ad cI cJ cZ ln fz sx mo sn bw tkv opv shv ldv wyv bdv ct dA dA sta stc fev dl dnv rov) [(0, .ref es), (1, .ref nt), (2, .int (nI t)), (3, .int (nI b)), (4, .long du), (6, .int (nI (f0_leastLast_lp tkv opv shv wyv bdv ct fev dnv t b du n k)))] [] 34) → GZ p l e R s m args below meth c 7 D A cells slots Q (wC xo nt es ro ad cI cJ cZ ln fz sx mo sn bw tkv opv shv ldv wyv bdv ct dA dA sta stc fev dl dnv rov) [(0, .ref es), (1, .ref nt), (2, .int (nI t)), (3, .int (nI b)), (4, .long du), (6, .int (nI k))] [] 3 := by
  intro n
  induction n with
  | zero =>
    intro k hme  hx
    refine gz_iload C 5 dX0_leastLast_3 rfl ?_
    refine gz_aload_n C 0 dX0_leastLast_5 rfl ?_
    refine gz_get (ci := 1) C iwX0 8 rfl rfl 1 (by decide) wk_64 rfl rfl dX0_leastLast_6 ?_
    refine gz_iconst (v := nI 1) C dX0_leastLast_9 (by decide) ?_
    refine gz_isub (v := nI (ct - 1)) C dX0_leastLast_10 (pk_sub (by first | omega | exact Nat.one_le_two_pow)) ?_
    refine gz_ncmp_ge C 34 (by omega) (by omega) dX0_leastLast_11 (by decide) (fun h_1 => ?_) (fun h_1 => ?_)
    · skip
      exact gz_lv [0, 1, 2, 3, 4, 5] rfl (hx )
    · have g_1 : ¬ ((ct - 1) ≤ k) := (Nat.not_le.mpr h_1)
      exfalso; omega
  | succ n ih =>
    intro k hme  hx
    refine gz_iload C 5 dX0_leastLast_3 rfl ?_
    refine gz_aload_n C 0 dX0_leastLast_5 rfl ?_
    refine gz_get (ci := 1) C iwX0 8 rfl rfl 1 (by decide) wk_64 rfl rfl dX0_leastLast_6 ?_
    refine gz_iconst (v := nI 1) C dX0_leastLast_9 (by decide) ?_
    refine gz_isub (v := nI (ct - 1)) C dX0_leastLast_10 (pk_sub (by first | omega | exact Nat.one_le_two_pow)) ?_
    refine gz_ncmp_ge C 34 (by omega) (by omega) dX0_leastLast_11 (by decide) (fun h_1 => ?_) (fun h_1 => ?_)
    · skip
      exfalso; omega
    · have g_1 : ¬ ((ct - 1) ≤ k) := (Nat.not_le.mpr h_1)
      refine gz_aload_n C 0 dX0_leastLast_14 rfl ?_
      refine gz_aload_n C 1 dX0_leastLast_15 rfl ?_
      refine gz_iload_n C 2 dX0_leastLast_16 rfl ?_
      refine gz_iload C 5 dX0_leastLast_17 rfl ?_
      refine gz_iload_n C 3 dX0_leastLast_19 rfl ?_
      refine gz_lload C 4 dX0_leastLast_20 rfl ?_
      refine gz_callV (wr := []) (n := 5) (ws2 := (wC xo nt es ro ad cI cJ cZ ln fz sx mo sn bw tkv opv shv ldv wyv bdv ct dA dA sta stc fev dl dnv rov)) (st2 := [.int (bI (f0_fits tkv opv shv wyv bdv ct fev dnv t k b du))]) (cells2 := cells) (slots2 := slots) (ci := 1) C (kX0_fits l D xo nt es ro ad cI cJ cZ ln fz sx mo sn bw tkv opv shv ldv wyv bdv ct dA sta stc fev dl dnv rov t k b du (by first | assumption | omega) (by first | assumption | omega) (by first | assumption | omega) (by first | assumption | omega) (by first | assumption | omega) (by first | assumption | omega) (by first | assumption | omega) (by first | assumption | omega)) (WB_V wk_205 wk_207 ws_6 wk_3 wk_208) (by decide +kernel) ⟨⟨rfl, rfl⟩, Nat.le_trans (by decide) hR.1, Nat.le_trans (by decide) hR.2⟩ [0, 1, 2, 3, 4, 5, 6, 7, 8, 9, 10, 11] [] [0, 1, 2] rfl rfl rfl (by decide) rfl 8 rfl rfl rfl rfl (Nat.le_of_ble_eq_true rfl) dX0_leastLast_22 hce rfl rfl rfl ?_
      refine gz_bif_ne C 34 dX0_leastLast_25 (by decide) (fun h_2 => ?_) (fun h_2 => ?_)
      · skip
        simp only [f0_leastLast_lp, if_neg g_1, if_pos h_2] at hx
        exact gz_lv [0, 1, 2, 3, 4, 5] rfl (hx )
      · have g_2 : ¬ ((f0_fits tkv opv shv wyv bdv ct fev dnv t k b du) = true) := (by rw [h_2]; decide)
        refine gz_iinc (v := nI (k + 1)) (lv2 := [(6, .int (nI (k + 1))), (0, .ref es), (1, .ref nt), (2, .int (nI t)), (3, .int (nI b)), (4, .long du)]) (k := 5) C dX0_leastLast_28 rfl (nI_add _ 1) (by decide) rfl ?_
        refine gz_goto C 3 dX0_leastLast_31 (by decide) ?_
        refine gz_lv [1, 2, 3, 4, 5, 0] rfl ?_
        simp only [f0_leastLast_lp, if_neg g_1, if_neg g_2] at hx
        exact ih (k + 1) (by omega)  hx

def f0_leastLast (tkv : Nat → Int64) (opv : Nat → Int64) (shv : Nat → Int64) (wyv : Nat → Int64) (bdv : Nat → Bool) (ct : Nat) (fev : Nat → Nat) (dnv : Nat → Int64) (t : Nat) (b : Nat) (du : Int64) : Nat := f0_leastLast_lp tkv opv shv wyv bdv ct fev dnv t b du (ct - 1) 0
set_option maxRecDepth 100000 in
set_option maxHeartbeats 4000000 in
theorem kX0_leastLast (l : Launch) (D : va_G) (xo : Nat) (nt : Nat) (es : Nat) (ro : Nat) (ad : Nat → Nat) (cI : ClassId) (cJ : ClassId) (cZ : ClassId) (ln : Int32) (fz : Nat) (sx : Bool) (mo : Int32) (sn : Nat) (bw : Int32) (tkv : Nat → Int64) (opv : Nat → Int64) (shv : Nat → Int64) (ldv : Nat → Int32) (wyv : Nat → Int64) (bdv : Nat → Bool) (ct : Nat) (dA : Nat) (sta : Nat) (stc : Int64) (fev : Nat → Nat) (dl : Nat) (dnv : Nat → Int64) (rov : Nat → Nat) (t : Nat) (b : Nat) (du : Int64) (hct : ct ≤ 11) (hfe : ∀ k, k < ct → fev k ≤ 20) (hsa : sta ≤ 20) (hdl : 2 ^ ct * ct ≤ dl) (hdm : dl ≤ 22528) (ht : t < 2 ^ ct) (hb : b ≤ 20) (h1 : 1 ≤ ct) : gz_M l yX0_leastLast cX0_leastLast 7 (some .int) ({ frames := 4, cells := 0, slots := 0, locals := 99 } : Room) D [(cI, .int), (cJ, .long), (cZ, .boolean)] [.ref es, .ref nt, .int (nI t), .int (nI b), .long du] (wC xo nt es ro ad cI cJ cZ ln fz sx mo sn bw tkv opv shv ldv wyv bdv ct dA dA sta stc fev dl dnv rov) (some (.int (nI (f0_leastLast tkv opv shv wyv bdv ct fev dnv t b du)))) (wC xo nt es ro ad cI cJ cZ ln fz sx mo sn bw tkv opv shv ldv wyv bdv ct dA dA sta stc fev dl dnv rov) 0 0 := by
  refine gz_met l (by decide) (Nat.le_of_ble_eq_true rfl) [(0, .ref es), (1, .ref nt), (2, .int (nI t)), (3, .int (nI b)), (4, .long du)] rfl ?_
  intro sz p e s m args below meth c C hr hk hnm
  have C : gz_C p s m args c cX0_leastLast 7 RX0 D [(cI, .int), (cJ, .long), (cZ, .boolean)] (va_A (wC xo nt es ro ad cI cJ cZ ln fz sx mo sn bw tkv opv shv ldv wyv bdv ct dA dA sta stc fev dl dnv rov) sz) := C
  refine gz_iconst (v := nI 0) C dX0_leastLast_0 (by decide) ?_
  refine gz_istore (lv2 := [(6, .int (nI 0)), (0, .ref es), (1, .ref nt), (2, .int (nI t)), (3, .int (nI b)), (4, .long du)]) C dX0_leastLast_1 (by decide) rfl ?_
  refine gz_lv (lv2 := [(0, .ref es), (1, .ref nt), (2, .int (nI t)), (3, .int (nI b)), (4, .long du), (6, .int (nI 0))]) [1, 2, 3, 4, 5, 0] rfl ?_
  refine lX0_leastLast_lp xo nt es ro ad cI cJ cZ ln fz sx mo sn bw tkv opv shv ldv wyv bdv ct dA sta stc fev dl dnv rov t b du (by first | assumption | omega) (by first | assumption | omega) (by first | assumption | omega) (by first | assumption | omega) (by first | assumption | omega) (by first | assumption | omega) (by first | assumption | omega) (by first | assumption | omega) ⟨Nat.le_of_ble_eq_true rfl, Nat.le_of_ble_eq_true rfl⟩ ⟨Nat.zero_le _, Nat.zero_le _⟩ C (ct - 1) 0 (by omega)  ?_
  refine gz_iload C 5 dX0_leastLast_34 rfl ?_
  exact gz_iret C hr hk (by first | rfl | (simp only [f0_leastLast]) | (simp only [f0_leastLast]; rfl)) rfl (Nat.le_refl _) (Nat.le_refl _) dX0_leastLast_36


theorem q0_ll_lp {tkv : Nat → Int64} {opv : Nat → Int64} {shv : Nat → Int64} {wyv : Nat → Int64} {bdv : Nat → Bool} {ct : Nat} {fev : Nat → Nat} {dnv : Nat → Int64} {t : Nat} {b : Nat} {du : Int64} (h1 : 1 ≤ ct) : ∀ n k, k + n = ct - 1 → f0_leastLast_lp tkv opv shv wyv bdv ct fev dnv t b du n k < ct := by
  intro n
  induction n with
  | zero => intro k h; unfold f0_leastLast_lp; omega
  | succ n ih =>
    intro k h
    unfold f0_leastLast_lp
    split
    · omega
    · exact ih (k + 1) (by omega)
theorem q0_ll {tkv : Nat → Int64} {opv : Nat → Int64} {shv : Nat → Int64} {wyv : Nat → Int64} {bdv : Nat → Bool} {ct : Nat} {fev : Nat → Nat} {dnv : Nat → Int64} {t : Nat} {b : Nat} {du : Int64} (h1 : 1 ≤ ct) : f0_leastLast tkv opv shv wyv bdv ct fev dnv t b du < ct := by
  unfold f0_leastLast
  exact q0_ll_lp h1 _ _ (by omega)

def f0_readBack_lp (tkv : Nat → Int64) (opv : Nat → Int64) (shv : Nat → Int64) (wyv : Nat → Int64) (bdv : Nat → Bool) (ct : Nat) (fev : Nat → Nat) (dnv : Nat → Int64) : Nat → Nat → Nat → Int64 → Nat → (Nat → Nat) → Nat × Nat × Int64 × Nat × (Nat → Nat)
  | 0, t, b, du, u, rov => (t, b, du, u, rov)
  | n + 1, t, b, du, u, rov => f0_readBack_lp tkv opv shv wyv bdv ct fev dnv n (t ^^^ (2 ^ (f0_leastLast tkv opv shv wyv bdv ct fev dnv t b du))) (fev (f0_leastLast tkv opv shv wyv bdv ct fev dnv t b du)) (dnv ((t * ct) + (f0_leastLast tkv opv shv wyv bdv ct fev dnv t b du))) ((u - 1)) (va_up rov (u - 1) (fev (f0_leastLast tkv opv shv wyv bdv ct fev dnv t b du)))
set_option maxRecDepth 100000 in
set_option maxHeartbeats 4000000 in
theorem lX0_readBack_lp {p : Program} {l : Launch} {e : Env} {R : Room} {s : State} {m : MethodId} {args : Array Value} {below : List Frame} {meth : Method} {c : Code} {cells slots : Nat} {Q : State → Prop} {A : Nat → Prop} {D : va_G} (xo : Nat) (nt : Nat) (es : Nat) (ro : Nat) (ad : Nat → Nat) (cI : ClassId) (cJ : ClassId) (cZ : ClassId) (ln : Int32) (fz : Nat) (sx : Bool) (mo : Int32) (sn : Nat) (bw : Int32) (tkv : Nat → Int64) (opv : Nat → Int64) (shv : Nat → Int64) (ldv : Nat → Int32) (wyv : Nat → Int64) (bdv : Nat → Bool) (ct : Nat) (dA : Nat) (sta : Nat) (stc : Int64) (fev : Nat → Nat) (dl : Nat) (dnv : Nat → Int64) (z : Nat) (hct : ct ≤ 11) (hfe : ∀ k, k < ct → fev k ≤ 20) (hsa : sta ≤ 20) (hdl : 2 ^ ct * ct ≤ dl) (hdm : dl ≤ 22528) (hzc : z + ct ≤ 20) (hR : 5 ≤ R.frames ∧ 125 ≤ R.locals) (hce : cells ≤ R.cells ∧ slots ≤ R.slots) (C : gz_C p s m args c cX0_readBack 12 RX0 D [(cI, .int), (cJ, .long), (cZ, .boolean)] A) : ∀ (n : Nat) (t : Nat) (b : Nat) (du : Int64) (u : Nat) (rov : Nat → Nat), (u = z + n ∧ u ≤ z + ct) → (t < 2 ^ ct) → (b ≤ 20) → ((((f0_readBack_lp tkv opv shv wyv bdv ct fev dnv n t b du u rov).2.2.2.1) = z + 0 ∧ ((f0_readBack_lp tkv opv shv wyv bdv ct fev dnv n t b du u rov).2.2.2.1) ≤ z + ct) → (((f0_readBack_lp tkv opv shv wyv bdv ct fev dnv n t b du u rov).1) < 2 ^ ct) → (((f0_readBack_lp tkv opv shv wyv bdv ct fev dnv n t b du u rov).2.1) ≤ 20) → GZ p l e R s m args below meth c 12 D A cells slots Q (wC xo nt es ro ad cI cJ cZ ln fz sx mo sn bw tkv opv shv ldv wyv bdv ct dA dA sta stc fev dl dnv ((f0_readBack_lp tkv opv shv wyv bdv ct fev dnv n t b du u rov).2.2.2.2)) [(0, .ref es), (1, .ref nt), (2, .ref ro), (3, .int (nI z)), (6, .int (nI ((f0_readBack_lp tkv opv shv wyv bdv ct fev dnv n t b du u rov).1))), (7, .int (nI ((f0_readBack_lp tkv opv shv wyv bdv ct fev dnv n t b du u rov).2.1))), (8, .long ((f0_readBack_lp tkv opv shv wyv bdv ct fev dnv n t b du u rov).2.2.1)), (10, .int (nI ((f0_readBack_lp tkv opv shv wyv bdv ct fev dnv n t b du u rov).2.2.2.1) - 1))] [] 98) → GZ p l e R s m args below meth c 12 D A cells slots Q (wC xo nt es ro ad cI cJ cZ ln fz sx mo sn bw tkv opv shv ldv wyv bdv ct dA dA sta stc fev dl dnv rov) [(0, .ref es), (1, .ref nt), (2, .ref ro), (3, .int (nI z)), (6, .int (nI t)), (7, .int (nI b)), (8, .long du), (10, .int (nI u - 1))] [] 27 := by
  intro n
  induction n with
  | zero =>
    intro t b du u rov hme ht hb hx
    refine gz_iload C 7 dX0_readBack_27 rfl ?_
    refine gz_iload_n C 3 dX0_readBack_29 rfl ?_
    refine gz_icmp_lt C 98 dX0_readBack_30 (by decide) (fun h_1 => ?_) (fun h_1 => ?_)
    · skip
      exact gz_lv [0, 1, 2, 3, 4, 5, 6, 7] rfl (hx hme ht hb)
    · have g_1 : ¬ (((nI u - 1)) < (nI z)) := h_1
      exact absurd ((bz_ltn (by omega) (by omega)).mpr (by omega)) g_1
  | succ n ih =>
    intro t b du u rov hme ht hb hx
    refine gz_iload C 7 dX0_readBack_27 rfl ?_
    refine gz_iload_n C 3 dX0_readBack_29 rfl ?_
    refine gz_icmp_lt C 98 dX0_readBack_30 (by decide) (fun h_1 => ?_) (fun h_1 => ?_)
    · skip
      exact absurd ((bz_ltn (by omega) (by omega)).mp h_1) (by omega)
    · have g_1 : ¬ (((nI u - 1)) < (nI z)) := h_1
      have hcv := bz_pd (u := u) (by omega)
      refine gz_lve (lv2 := [(0, .ref es), (1, .ref nt), (2, .ref ro), (3, .int (nI z)), (6, .int (nI t)), (7, .int (nI b)), (8, .long du), (10, .int (nI (u - 1)))]) (by rw [hcv]) ?_
      have hp := bz_pow hct
      refine gz_aload_n C 0 dX0_readBack_33 rfl ?_
      refine gz_aload_n C 1 dX0_readBack_34 rfl ?_
      refine gz_iload C 4 dX0_readBack_35 rfl ?_
      refine gz_iload C 5 dX0_readBack_37 rfl ?_
      refine gz_lload C 6 dX0_readBack_39 rfl ?_
      refine gz_callV (wr := []) (n := 4) (ws2 := (wC xo nt es ro ad cI cJ cZ ln fz sx mo sn bw tkv opv shv ldv wyv bdv ct dA dA sta stc fev dl dnv rov)) (st2 := [.int (nI (f0_leastLast tkv opv shv wyv bdv ct fev dnv t b du))]) (cells2 := cells) (slots2 := slots) (ci := 1) C (kX0_leastLast l D xo nt es ro ad cI cJ cZ ln fz sx mo sn bw tkv opv shv ldv wyv bdv ct dA sta stc fev dl dnv rov t b du (by first | assumption | omega) (by first | assumption | omega) (by first | assumption | omega) (by first | assumption | omega) (by first | assumption | omega) (by first | assumption | omega) (by first | assumption | omega) (by first | assumption | omega)) (WB_V wk_201 wk_203 ws_5 wk_3 wk_204) (by decide +kernel) ⟨⟨rfl, rfl⟩, Nat.le_trans (by decide) hR.1, Nat.le_trans (by decide) hR.2⟩ [0, 1, 2, 3, 4, 5, 6, 7, 8, 9, 10, 11] [] [0, 1, 2] rfl rfl rfl (by decide) rfl 8 rfl rfl rfl rfl (Nat.le_of_ble_eq_true rfl) dX0_readBack_41 hce rfl rfl rfl ?_
      refine gz_istore (lv2 := [(11, .int (nI (f0_leastLast tkv opv shv wyv bdv ct fev dnv t b du))), (0, .ref es), (1, .ref nt), (2, .ref ro), (3, .int (nI z)), (6, .int (nI t)), (7, .int (nI b)), (8, .long du), (10, .int (nI (u - 1)))]) C dX0_readBack_44 (by decide) rfl ?_
      have hll : f0_leastLast tkv opv shv wyv bdv ct fev dnv t b du < ct := q0_ll (by omega)
      have hqq := hfe (f0_leastLast tkv opv shv wyv bdv ct fev dnv t b du) hll
      refine gz_aload_n C 3 dX0_readBack_46 rfl ?_
      refine gz_iload C 8 dX0_readBack_47 rfl ?_
      refine gz_aload_n C 1 dX0_readBack_49 rfl ?_
      refine gz_get (ci := 1) C iwX0 8 rfl rfl 0 (by decide) wk_63 rfl rfl dX0_readBack_50 ?_
      refine gz_iload C 0 dX0_readBack_53 rfl ?_
      refine gz_iald C 9 0 rfl rfl (by omega) (by decide) dX0_readBack_55 ?_
      refine gz_iast (ws2 := (wC xo nt es ro ad cI cJ cZ ln fz sx mo sn bw tkv opv shv ldv wyv bdv ct dA dA sta stc fev dl dnv (va_up rov (u - 1) (fev (f0_leastLast tkv opv shv wyv bdv ct fev dnv t b du))))) C 11 0 rfl rfl (by omega) (by decide) rfl dX0_readBack_56 ?_
      refine gz_aload_n C 1 dX0_readBack_57 rfl ?_
      refine gz_get (ci := 1) C iwX0 8 rfl rfl 0 (by decide) wk_63 rfl rfl dX0_readBack_58 ?_
      refine gz_iload C 0 dX0_readBack_61 rfl ?_
      refine gz_iald C 9 0 rfl rfl (by omega) (by decide) dX0_readBack_63 ?_
      refine gz_istore (lv2 := [(7, .int (nI (fev (f0_leastLast tkv opv shv wyv bdv ct fev dnv t b du)))), (11, .int (nI (f0_leastLast tkv opv shv wyv bdv ct fev dnv t b du))), (0, .ref es), (1, .ref nt), (2, .ref ro), (3, .int (nI z)), (6, .int (nI t)), (8, .long du), (10, .int (nI (u - 1)))]) C dX0_readBack_64 (by decide) rfl ?_
      refine gz_aload_n C 2 dX0_readBack_66 rfl ?_
      refine gz_get (ci := 1) C iwX0 8 rfl rfl 2 (by decide) wk_65 rfl rfl dX0_readBack_67 ?_
      refine gz_iload C 6 dX0_readBack_70 rfl ?_
      refine gz_aload_n C 2 dX0_readBack_72 rfl ?_
      refine gz_get (ci := 1) C iwX0 8 rfl rfl 1 (by decide) wk_64 rfl rfl dX0_readBack_73 ?_
      refine gz_imul (v := nI (t * ct)) C dX0_readBack_76 (pk_mul _ _) ?_
      refine gz_iload C 1 dX0_readBack_77 rfl ?_
      refine gz_iadd (v := nI ((t * ct) + (f0_leastLast tkv opv shv wyv bdv ct fev dnv t b du))) C dX0_readBack_79 (nI_add _ _) ?_
      refine gz_lald C 10 1 rfl rfl (bz_ix ht hll hdl) (by omega) dX0_readBack_80 ?_
      refine gz_lstore (lv2 := [(8, .long (dnv ((t * ct) + (f0_leastLast tkv opv shv wyv bdv ct fev dnv t b du)))), (7, .int (nI (fev (f0_leastLast tkv opv shv wyv bdv ct fev dnv t b du)))), (11, .int (nI (f0_leastLast tkv opv shv wyv bdv ct fev dnv t b du))), (0, .ref es), (1, .ref nt), (2, .ref ro), (3, .int (nI z)), (6, .int (nI t)), (10, .int (nI (u - 1)))]) C dX0_readBack_81 (by decide) rfl ?_
      refine gz_iload C 7 dX0_readBack_83 rfl ?_
      refine gz_iconst (v := nI 1) C dX0_readBack_85 (by decide) ?_
      refine gz_iload C 2 dX0_readBack_86 rfl ?_
      refine gz_ishl (v := nI (2 ^ (f0_leastLast tkv opv shv wyv bdv ct fev dnv t b du))) C dX0_readBack_88 (bz_shl (by omega)) ?_
      refine gz_ixor (v := nI (t ^^^ (2 ^ (f0_leastLast tkv opv shv wyv bdv ct fev dnv t b du)))) C dX0_readBack_89 (bz_xor _ _) ?_
      refine gz_istore (lv2 := [(6, .int (nI (t ^^^ (2 ^ (f0_leastLast tkv opv shv wyv bdv ct fev dnv t b du))))), (8, .long (dnv ((t * ct) + (f0_leastLast tkv opv shv wyv bdv ct fev dnv t b du)))), (7, .int (nI (fev (f0_leastLast tkv opv shv wyv bdv ct fev dnv t b du)))), (11, .int (nI (f0_leastLast tkv opv shv wyv bdv ct fev dnv t b du))), (0, .ref es), (1, .ref nt), (2, .ref ro), (3, .int (nI z)), (10, .int (nI (u - 1)))]) C dX0_readBack_90 (by decide) rfl ?_
      refine gz_iinc (v := (nI (u - 1) - 1)) (lv2 := [(10, .int (nI (u - 1) - 1)), (6, .int (nI (t ^^^ (2 ^ (f0_leastLast tkv opv shv wyv bdv ct fev dnv t b du))))), (8, .long (dnv ((t * ct) + (f0_leastLast tkv opv shv wyv bdv ct fev dnv t b du)))), (7, .int (nI (fev (f0_leastLast tkv opv shv wyv bdv ct fev dnv t b du)))), (11, .int (nI (f0_leastLast tkv opv shv wyv bdv ct fev dnv t b du))), (0, .ref es), (1, .ref nt), (2, .ref ro), (3, .int (nI z))]) (k := 8) C dX0_readBack_92 rfl (bz_dec _) (by decide) rfl ?_
      refine gz_goto C 27 dX0_readBack_95 (by decide) ?_
      refine gz_lv [5, 6, 7, 8, 1, 3, 2, 0] rfl ?_
      simp only [f0_readBack_lp, if_neg g_1] at hx
      exact ih (t ^^^ (2 ^ (f0_leastLast tkv opv shv wyv bdv ct fev dnv t b du))) (fev (f0_leastLast tkv opv shv wyv bdv ct fev dnv t b du)) (dnv ((t * ct) + (f0_leastLast tkv opv shv wyv bdv ct fev dnv t b du))) ((u - 1)) (va_up rov (u - 1) (fev (f0_leastLast tkv opv shv wyv bdv ct fev dnv t b du))) (by omega) (bz_xor_lt ht hll) (by omega) hx

def f0_readBack_rov (tkv : Nat → Int64) (opv : Nat → Int64) (shv : Nat → Int64) (wyv : Nat → Int64) (bdv : Nat → Bool) (ct : Nat) (fev : Nat → Nat) (dnv : Nat → Int64) (rov : Nat → Nat) (z : Nat) (hm : Int64) : Nat → Nat := (f0_readBack_lp tkv opv shv wyv bdv ct fev dnv (((z + ct)) - z) ((2 ^ ct) - 1) 0 hm ((z + ct)) rov).2.2.2.2
set_option maxRecDepth 100000 in
set_option maxHeartbeats 4000000 in
theorem kX0_readBack (l : Launch) (D : va_G) (xo : Nat) (nt : Nat) (es : Nat) (ro : Nat) (ad : Nat → Nat) (cI : ClassId) (cJ : ClassId) (cZ : ClassId) (ln : Int32) (fz : Nat) (sx : Bool) (mo : Int32) (sn : Nat) (bw : Int32) (tkv : Nat → Int64) (opv : Nat → Int64) (shv : Nat → Int64) (ldv : Nat → Int32) (wyv : Nat → Int64) (bdv : Nat → Bool) (ct : Nat) (dA : Nat) (sta : Nat) (stc : Int64) (fev : Nat → Nat) (dl : Nat) (dnv : Nat → Int64) (rov : Nat → Nat) (z : Nat) (hm : Int64) (hct : ct ≤ 11) (hfe : ∀ k, k < ct → fev k ≤ 20) (hsa : sta ≤ 20) (hdl : 2 ^ ct * ct ≤ dl) (hdm : dl ≤ 22528) (hzc : z + ct ≤ 20) : gz_M l yX0_readBack cX0_readBack 12 none ({ frames := 5, cells := 0, slots := 0, locals := 125 } : Room) D [(cI, .int), (cJ, .long), (cZ, .boolean)] [.ref es, .ref nt, .ref ro, .int (nI z), .long hm] (wC xo nt es ro ad cI cJ cZ ln fz sx mo sn bw tkv opv shv ldv wyv bdv ct dA dA sta stc fev dl dnv rov) (none) (wC xo nt es ro ad cI cJ cZ ln fz sx mo sn bw tkv opv shv ldv wyv bdv ct dA dA sta stc fev dl dnv (f0_readBack_rov tkv opv shv wyv bdv ct fev dnv rov z hm)) 0 0 := by
  refine gz_met l (by decide) (Nat.le_of_ble_eq_true rfl) [(0, .ref es), (1, .ref nt), (2, .ref ro), (3, .int (nI z)), (4, .long hm)] rfl ?_
  intro sz p e s m args below meth c C hr hk hnm
  have C : gz_C p s m args c cX0_readBack 12 RX0 D [(cI, .int), (cJ, .long), (cZ, .boolean)] (va_A (wC xo nt es ro ad cI cJ cZ ln fz sx mo sn bw tkv opv shv ldv wyv bdv ct dA dA sta stc fev dl dnv rov) sz) := C
  refine gz_iconst (v := nI 1) C dX0_readBack_0 (by decide) ?_
  refine gz_aload_n C 0 dX0_readBack_1 rfl ?_
  refine gz_get (ci := 1) C iwX0 8 rfl rfl 1 (by decide) wk_64 rfl rfl dX0_readBack_2 ?_
  refine gz_ishl (v := nI (2 ^ ct)) C dX0_readBack_5 (bz_shl (by omega)) ?_
  refine gz_iconst (v := nI 1) C dX0_readBack_6 (by decide) ?_
  refine gz_isub (v := nI ((2 ^ ct) - 1)) C dX0_readBack_7 (pk_sub (by first | omega | exact Nat.one_le_two_pow)) ?_
  refine gz_istore (lv2 := [(6, .int (nI ((2 ^ ct) - 1))), (0, .ref es), (1, .ref nt), (2, .ref ro), (3, .int (nI z)), (4, .long hm)]) C dX0_readBack_8 (by decide) rfl ?_
  refine gz_iconst (v := nI 0) C dX0_readBack_10 (by decide) ?_
  refine gz_istore (lv2 := [(7, .int (nI 0)), (6, .int (nI ((2 ^ ct) - 1))), (0, .ref es), (1, .ref nt), (2, .ref ro), (3, .int (nI z)), (4, .long hm)]) C dX0_readBack_11 (by decide) rfl ?_
  refine gz_lload C 6 dX0_readBack_13 rfl ?_
  refine gz_lstore (lv2 := [(8, .long hm), (7, .int (nI 0)), (6, .int (nI ((2 ^ ct) - 1))), (0, .ref es), (1, .ref nt), (2, .ref ro), (3, .int (nI z)), (4, .long hm)]) C dX0_readBack_15 (by decide) rfl ?_
  refine gz_iload_n C 6 dX0_readBack_17 rfl ?_
  refine gz_aload_n C 3 dX0_readBack_18 rfl ?_
  refine gz_get (ci := 1) C iwX0 8 rfl rfl 1 (by decide) wk_64 rfl rfl dX0_readBack_19 ?_
  refine gz_iadd (v := nI (z + ct)) C dX0_readBack_22 (nI_add _ _) ?_
  refine gz_iconst (v := nI 1) C dX0_readBack_23 (by decide) ?_
  refine gz_isub (v := (nI (z + ct) - 1)) C dX0_readBack_24 rfl ?_
  refine gz_istore (lv2 := [(10, .int (nI (z + ct) - 1)), (8, .long hm), (7, .int (nI 0)), (6, .int (nI ((2 ^ ct) - 1))), (0, .ref es), (1, .ref nt), (2, .ref ro), (3, .int (nI z)), (4, .long hm)]) C dX0_readBack_25 (by decide) rfl ?_
  refine gz_lv (lv2 := [(0, .ref es), (1, .ref nt), (2, .ref ro), (3, .int (nI z)), (6, .int (nI ((2 ^ ct) - 1))), (7, .int (nI 0)), (8, .long hm), (10, .int (nI (z + ct) - 1))]) [4, 5, 6, 7, 3, 2, 1, 0] rfl ?_
  refine lX0_readBack_lp xo nt es ro ad cI cJ cZ ln fz sx mo sn bw tkv opv shv ldv wyv bdv ct dA sta stc fev dl dnv z (by first | assumption | omega) (by first | assumption | omega) (by first | assumption | omega) (by first | assumption | omega) (by first | assumption | omega) (by first | assumption | omega) ⟨Nat.le_of_ble_eq_true rfl, Nat.le_of_ble_eq_true rfl⟩ ⟨Nat.zero_le _, Nat.zero_le _⟩ C (((z + ct)) - z) ((2 ^ ct) - 1) 0 hm ((z + ct)) rov (by omega) (by have := bz_pow1 ct; omega) (by first | assumption | omega) ?_
  intro zme_lp zht_lp zhb_lp
  exact gz_vret C hr hk (by first | rfl | (simp only [f0_readBack_rov]) | (simp only [f0_readBack_rov]; rfl)) (by first | rfl | (simp only [f0_readBack_rov]) | (simp only [f0_readBack_rov]; rfl)) (Nat.le_refl _) (Nat.le_refl _) dX0_readBack_98


def f0_reckonSets_lpa (tkv : Nat → Int64) (opv : Nat → Int64) (shv : Nat → Int64) (wyv : Nat → Int64) (bdv : Nat → Bool) (ct : Nat) (sta : Nat) (stc : Int64) (fev : Nat → Nat) (t : Nat) : Nat → Nat → (Nat → Int64) → Nat × (Nat → Int64)
  | 0, k, dnv => (k, dnv)
  | n + 1, k, dnv => f0_reckonSets_lpa tkv opv shv wyv bdv ct sta stc fev t n (k + 1) ((if (f0_has t k) = true then va_up dnv ((t * ct) + k) (f0_earliest tkv opv shv wyv bdv ct sta stc fev dnv (t ^^^ (2 ^ k)) (fev k)) else dnv))
set_option maxRecDepth 100000 in
set_option maxHeartbeats 4000000 in
theorem lX0_reckonSets_lpa {p : Program} {l : Launch} {e : Env} {R : Room} {s : State} {m : MethodId} {args : Array Value} {below : List Frame} {meth : Method} {c : Code} {cells slots : Nat} {Q : State → Prop} {A : Nat → Prop} {D : va_G} (xo : Nat) (nt : Nat) (es : Nat) (ro : Nat) (ad : Nat → Nat) (cI : ClassId) (cJ : ClassId) (cZ : ClassId) (ln : Int32) (fz : Nat) (sx : Bool) (mo : Int32) (sn : Nat) (bw : Int32) (tkv : Nat → Int64) (opv : Nat → Int64) (shv : Nat → Int64) (ldv : Nat → Int32) (wyv : Nat → Int64) (bdv : Nat → Bool) (ct : Nat) (dA : Nat) (sta : Nat) (stc : Int64) (fev : Nat → Nat) (dl : Nat) (rov : Nat → Nat) (se : Nat) (t : Nat) (hct : ct ≤ 11) (hfe : ∀ k, k < ct → fev k ≤ 20) (hsa : sta ≤ 20) (hdm : dl ≤ 22528) (hdl : 2 ^ ct * ct ≤ dl) (ht : t < 2 ^ ct) (hR : 4 ≤ R.frames ∧ 99 ≤ R.locals) (hce : cells ≤ R.cells ∧ slots ≤ R.slots) (C : gz_C p s m args c cX0_reckonSets 5 RX0 D [(cI, .int), (cJ, .long), (cZ, .boolean)] A) : ∀ (n : Nat) (k : Nat) (dnv : Nat → Int64), (k + n = ct) → ((((f0_reckonSets_lpa tkv opv shv wyv bdv ct sta stc fev t n k dnv).1) + 0 = ct) → GZ p l e R s m args below meth c 5 D A cells slots Q (wC xo nt es ro ad cI cJ cZ ln fz sx mo sn bw tkv opv shv ldv wyv bdv ct dA dA sta stc fev dl ((f0_reckonSets_lpa tkv opv shv wyv bdv ct sta stc fev t n k dnv).2) rov) [(0, .ref es), (1, .ref nt), (2, .int (nI se)), (3, .int (nI t)), (4, .int (nI ((f0_reckonSets_lpa tkv opv shv wyv bdv ct sta stc fev t n k dnv).1)))] [] 99) → GZ p l e R s m args below meth c 5 D A cells slots Q (wC xo nt es ro ad cI cJ cZ ln fz sx mo sn bw tkv opv shv ldv wyv bdv ct dA dA sta stc fev dl dnv rov) [(0, .ref es), (1, .ref nt), (2, .int (nI se)), (3, .int (nI t)), (4, .int (nI k))] [] 43 := by
  intro n
  induction n with
  | zero =>
    intro k dnv hme  hx
    refine gz_iload C 4 dX0_reckonSets_43 rfl ?_
    refine gz_aload_n C 0 dX0_reckonSets_45 rfl ?_
    refine gz_get (ci := 1) C iwX0 8 rfl rfl 1 (by decide) wk_64 rfl rfl dX0_reckonSets_46 ?_
    refine gz_ncmp_ge C 99 (by omega) (by omega) dX0_reckonSets_49 (by decide) (fun h_1 => ?_) (fun h_1 => ?_)
    · skip
      exact gz_lv [0, 1, 2, 3, 4] rfl (hx hme )
    · have g_1 : ¬ (ct ≤ k) := (Nat.not_le.mpr h_1)
      exfalso; omega
  | succ n ih =>
    intro k dnv hme  hx
    refine gz_iload C 4 dX0_reckonSets_43 rfl ?_
    refine gz_aload_n C 0 dX0_reckonSets_45 rfl ?_
    refine gz_get (ci := 1) C iwX0 8 rfl rfl 1 (by decide) wk_64 rfl rfl dX0_reckonSets_46 ?_
    refine gz_ncmp_ge C 99 (by omega) (by omega) dX0_reckonSets_49 (by decide) (fun h_1 => ?_) (fun h_1 => ?_)
    · skip
      exfalso; omega
    · have g_1 : ¬ (ct ≤ k) := (Nat.not_le.mpr h_1)
      have hp := bz_pow hct
      have hq := hfe k (by omega)
      refine gz_iload_n C 3 dX0_reckonSets_52 rfl ?_
      refine gz_iload C 4 dX0_reckonSets_53 rfl ?_
      refine gz_callS (wr := []) (n := 2) (ws2 := (wC xo nt es ro ad cI cJ cZ ln fz sx mo sn bw tkv opv shv ldv wyv bdv ct dA dA sta stc fev dl dnv rov)) (st2 := [.int (bI (f0_has t k))]) (cells2 := cells) (slots2 := slots) C (kX0_has l D xo nt es ro ad cI cJ cZ ln fz sx mo sn bw tkv opv shv ldv wyv bdv ct dA sta stc fev dl dnv rov t k (by first | assumption | omega) (by first | assumption | omega)) (WB_S wk_187 wk_188 wk_3 wk_189) (by decide +kernel) ⟨⟨rfl, rfl⟩, Nat.le_trans (by decide) hR.1, Nat.le_trans (by decide) hR.2⟩ [0, 1, 2, 3, 4, 5, 6, 7, 8, 9, 10, 11] [] [0, 1, 2] rfl rfl rfl (by decide) rfl rfl rfl (Nat.le_of_ble_eq_true rfl) dX0_reckonSets_55 hce rfl rfl rfl ?_
      refine gz_J (ws2 := (wC xo nt es ro ad cI cJ cZ ln fz sx mo sn bw tkv opv shv ldv wyv bdv ct dA dA sta stc fev dl ((if (f0_has t k) = true then va_up dnv ((t * ct) + k) (f0_earliest tkv opv shv wyv bdv ct sta stc fev dnv (t ^^^ (2 ^ k)) (fev k)) else dnv)) rov)) (lv2 := [(0, .ref es), (1, .ref nt), (2, .int (nI se)), (3, .int (nI t)), (4, .int (nI k))]) (st2 := []) (pc2 := 93) ?_ (fun J_2 => ?_)
      rotate_left
      · refine gz_bif_eq C 93 dX0_reckonSets_58 (by decide) (fun h_2 => ?_) (fun h_2 => ?_)
        · have g_2 : ¬ ((f0_has t k) = true) := (by rw [h_2]; decide)
          simp only [if_neg g_2] at J_2 ⊢
          exact gz_lv [0, 1, 2, 3, 4] rfl J_2
        · skip
          refine gz_aload_n C 0 dX0_reckonSets_61 rfl ?_
          refine gz_get (ci := 1) C iwX0 8 rfl rfl 2 (by decide) wk_65 rfl rfl dX0_reckonSets_62 ?_
          refine gz_iload_n C 3 dX0_reckonSets_65 rfl ?_
          refine gz_aload_n C 0 dX0_reckonSets_66 rfl ?_
          refine gz_get (ci := 1) C iwX0 8 rfl rfl 1 (by decide) wk_64 rfl rfl dX0_reckonSets_67 ?_
          refine gz_imul (v := nI (t * ct)) C dX0_reckonSets_70 (pk_mul _ _) ?_
          refine gz_iload C 4 dX0_reckonSets_71 rfl ?_
          refine gz_iadd (v := nI ((t * ct) + k)) C dX0_reckonSets_73 (nI_add _ _) ?_
          refine gz_aload_n C 0 dX0_reckonSets_74 rfl ?_
          refine gz_aload_n C 1 dX0_reckonSets_75 rfl ?_
          refine gz_iload_n C 3 dX0_reckonSets_76 rfl ?_
          refine gz_iconst (v := nI 1) C dX0_reckonSets_77 (by decide) ?_
          refine gz_iload C 4 dX0_reckonSets_78 rfl ?_
          refine gz_ishl (v := nI (2 ^ k)) C dX0_reckonSets_80 (bz_shl (by omega)) ?_
          refine gz_ixor (v := nI (t ^^^ (2 ^ k))) C dX0_reckonSets_81 (bz_xor _ _) ?_
          refine gz_aload_n C 0 dX0_reckonSets_82 rfl ?_
          refine gz_get (ci := 1) C iwX0 8 rfl rfl 0 (by decide) wk_63 rfl rfl dX0_reckonSets_83 ?_
          refine gz_iload C 4 dX0_reckonSets_86 rfl ?_
          refine gz_iald C 9 0 rfl rfl (by omega) (by decide) dX0_reckonSets_88 ?_
          refine gz_callV (wr := []) (n := 3) (ws2 := (wC xo nt es ro ad cI cJ cZ ln fz sx mo sn bw tkv opv shv ldv wyv bdv ct dA dA sta stc fev dl dnv rov)) (st2 := [.long (f0_earliest tkv opv shv wyv bdv ct sta stc fev dnv (t ^^^ (2 ^ k)) (fev k)), .int (nI ((t * ct) + k)), .ref dA]) (cells2 := cells) (slots2 := slots) (ci := 1) C (kX0_earliest l D xo nt es ro ad cI cJ cZ ln fz sx mo sn bw tkv opv shv ldv wyv bdv ct dA sta stc fev dl dnv rov (t ^^^ (2 ^ k)) (fev k) (by first | assumption | omega) (by first | assumption | omega) (by first | assumption | omega) (by first | assumption | omega) (by first | assumption | omega) (bz_xor_lt ht (by omega)) (by first | assumption | omega)) (WB_V wk_190 wk_192 ws_3 wk_3 wk_193) (by decide +kernel) ⟨⟨rfl, rfl⟩, Nat.le_trans (by decide) hR.1, Nat.le_trans (by decide) hR.2⟩ [0, 1, 2, 3, 4, 5, 6, 7, 8, 9, 10, 11] [] [0, 1, 2] rfl rfl rfl (by decide) rfl 8 rfl rfl rfl rfl (Nat.le_of_ble_eq_true rfl) dX0_reckonSets_89 hce rfl rfl rfl ?_
          refine gz_last (ws2 := (wC xo nt es ro ad cI cJ cZ ln fz sx mo sn bw tkv opv shv ldv wyv bdv ct dA dA sta stc fev dl (va_up dnv ((t * ct) + k) (f0_earliest tkv opv shv wyv bdv ct sta stc fev dnv (t ^^^ (2 ^ k)) (fev k))) rov)) C 10 1 rfl rfl (bz_ix ht (by omega) hdl) (by omega) rfl dX0_reckonSets_92 ?_
          simp only [if_pos h_2] at J_2 ⊢
          exact gz_lv [0, 1, 2, 3, 4] rfl J_2
      refine gz_iinc (v := nI (k + 1)) (lv2 := [(4, .int (nI (k + 1))), (0, .ref es), (1, .ref nt), (2, .int (nI se)), (3, .int (nI t))]) (k := 4) C dX0_reckonSets_93 rfl (nI_add _ 1) (by decide) rfl ?_
      refine gz_goto C 43 dX0_reckonSets_96 (by decide) ?_
      refine gz_lv [1, 2, 3, 4, 0] rfl ?_
      simp only [f0_reckonSets_lpa, if_neg g_1] at hx
      exact ih (k + 1) ((if (f0_has t k) = true then va_up dnv ((t * ct) + k) (f0_earliest tkv opv shv wyv bdv ct sta stc fev dnv (t ^^^ (2 ^ k)) (fev k)) else dnv)) (by omega)  hx

def f0_reckonSets_lpb (tkv : Nat → Int64) (opv : Nat → Int64) (shv : Nat → Int64) (wyv : Nat → Int64) (bdv : Nat → Bool) (ct : Nat) (sta : Nat) (stc : Int64) (fev : Nat → Nat) : Nat → Nat → (Nat → Int64) → Nat × (Nat → Int64)
  | 0, t, dnv => (t, dnv)
  | n + 1, t, dnv => f0_reckonSets_lpb tkv opv shv wyv bdv ct sta stc fev n (t + 1) ((f0_reckonSets_lpa tkv opv shv wyv bdv ct sta stc fev t ct 0 dnv).2)
set_option maxRecDepth 100000 in
set_option maxHeartbeats 4000000 in
theorem lX0_reckonSets_lpb {p : Program} {l : Launch} {e : Env} {R : Room} {s : State} {m : MethodId} {args : Array Value} {below : List Frame} {meth : Method} {c : Code} {cells slots : Nat} {Q : State → Prop} {A : Nat → Prop} {D : va_G} (xo : Nat) (nt : Nat) (es : Nat) (ro : Nat) (ad : Nat → Nat) (cI : ClassId) (cJ : ClassId) (cZ : ClassId) (ln : Int32) (fz : Nat) (sx : Bool) (mo : Int32) (sn : Nat) (bw : Int32) (tkv : Nat → Int64) (opv : Nat → Int64) (shv : Nat → Int64) (ldv : Nat → Int32) (wyv : Nat → Int64) (bdv : Nat → Bool) (ct : Nat) (dA : Nat) (sta : Nat) (stc : Int64) (fev : Nat → Nat) (dl : Nat) (rov : Nat → Nat) (se : Nat) (hct : ct ≤ 11) (hfe : ∀ k, k < ct → fev k ≤ 20) (hsa : sta ≤ 20) (hdm : dl ≤ 22528) (hdl : 2 ^ ct * ct ≤ dl) (hse : se = 2 ^ ct) (hR : 4 ≤ R.frames ∧ 99 ≤ R.locals) (hce : cells ≤ R.cells ∧ slots ≤ R.slots) (C : gz_C p s m args c cX0_reckonSets 5 RX0 D [(cI, .int), (cJ, .long), (cZ, .boolean)] A) : ∀ (n : Nat) (t : Nat) (dnv : Nat → Int64), (t + n = se) → ((((f0_reckonSets_lpb tkv opv shv wyv bdv ct sta stc fev n t dnv).1) + 0 = se) → GZ p l e R s m args below meth c 5 D A cells slots Q (wC xo nt es ro ad cI cJ cZ ln fz sx mo sn bw tkv opv shv ldv wyv bdv ct dA dA sta stc fev dl ((f0_reckonSets_lpb tkv opv shv wyv bdv ct sta stc fev n t dnv).2) rov) [(0, .ref es), (1, .ref nt), (2, .int (nI se)), (3, .int (nI ((f0_reckonSets_lpb tkv opv shv wyv bdv ct sta stc fev n t dnv).1)))] [] 105) → GZ p l e R s m args below meth c 5 D A cells slots Q (wC xo nt es ro ad cI cJ cZ ln fz sx mo sn bw tkv opv shv ldv wyv bdv ct dA dA sta stc fev dl dnv rov) [(0, .ref es), (1, .ref nt), (2, .int (nI se)), (3, .int (nI t))] [] 35 := by
  intro n
  induction n with
  | zero =>
    intro t dnv hme  hx
    have hp := bz_pow hct
    refine gz_iload_n C 3 dX0_reckonSets_35 rfl ?_
    refine gz_iload_n C 2 dX0_reckonSets_36 rfl ?_
    refine gz_ncmp_ge C 105 (by omega) (by omega) dX0_reckonSets_37 (by decide) (fun h_1 => ?_) (fun h_1 => ?_)
    · skip
      exact gz_lv [0, 1, 2, 3] rfl (hx hme )
    · have g_1 : ¬ (se ≤ t) := (Nat.not_le.mpr h_1)
      exfalso; omega
  | succ n ih =>
    intro t dnv hme  hx
    have hp := bz_pow hct
    refine gz_iload_n C 3 dX0_reckonSets_35 rfl ?_
    refine gz_iload_n C 2 dX0_reckonSets_36 rfl ?_
    refine gz_ncmp_ge C 105 (by omega) (by omega) dX0_reckonSets_37 (by decide) (fun h_1 => ?_) (fun h_1 => ?_)
    · skip
      exfalso; omega
    · have g_1 : ¬ (se ≤ t) := (Nat.not_le.mpr h_1)
      refine gz_iconst (v := nI 0) C dX0_reckonSets_40 (by decide) ?_
      refine gz_istore (lv2 := [(4, .int (nI 0)), (0, .ref es), (1, .ref nt), (2, .int (nI se)), (3, .int (nI t))]) C dX0_reckonSets_41 (by decide) rfl ?_
      refine gz_lv (lv2 := [(0, .ref es), (1, .ref nt), (2, .int (nI se)), (3, .int (nI t)), (4, .int (nI 0))]) [1, 2, 3, 4, 0] rfl ?_
      refine lX0_reckonSets_lpa xo nt es ro ad cI cJ cZ ln fz sx mo sn bw tkv opv shv ldv wyv bdv ct dA sta stc fev dl rov se t (by first | assumption | omega) (by first | assumption | omega) (by first | assumption | omega) (by first | assumption | omega) (by first | assumption | omega) (by first | assumption | omega) ⟨Nat.le_trans (by decide) hR.1, Nat.le_trans (by decide) hR.2⟩ hce C ct 0 dnv (by omega)  ?_
      intro zme_lpa
      refine gz_iinc (v := nI (t + 1)) (lv2 := [(3, .int (nI (t + 1))), (0, .ref es), (1, .ref nt), (2, .int (nI se)), (4, .int (nI ((f0_reckonSets_lpa tkv opv shv wyv bdv ct sta stc fev t ct 0 dnv).1)))]) (k := 3) C dX0_reckonSets_99 rfl (nI_add _ 1) (by decide) rfl ?_
      refine gz_goto C 35 dX0_reckonSets_102 (by decide) ?_
      refine gz_lv [1, 2, 3, 0] rfl ?_
      simp only [f0_reckonSets_lpb, if_neg g_1] at hx
      exact ih (t + 1) ((f0_reckonSets_lpa tkv opv shv wyv bdv ct sta stc fev t ct 0 dnv).2) (by omega)  hx


theorem va_RA_inj {U : State} {c1 c2 : ClassId} {ty : FieldType} (h1 : va_RA U c1 ty) (h2 : va_RA U c2 ty) : c1 = c2 := by
  cases ty with
  | object C =>
    obtain ⟨_, _, _, _, _, a⟩ := h1
    obtain ⟨_, _, _, _, _, b⟩ := h2
    exact Option.some.inj (a.symm.trans b)
  | _ =>
    have a : U.vm.findClass _ = some c1 := h1
    have b : U.vm.findClass _ = some c2 := h2
    exact Option.some.inj (a.symm.trans b)
/-- what a constructor does: the world is one of f's -/
def gz_QX {S : Type} (D : va_G) (tys : List (ClassId × FieldType)) (ov : Option Value) (f : S → va_W) (A : Nat → Prop) : Array Value → State → Outcome → State → Prop := fun _ s oc t => oc = .returned ov ∧ (∃ u, va_P D vwCl (f u) t.heap ∧ va_K D vwCl tys t ∧ va_D A (f u)) ∧ va_F A s t
def gz_MX {S : Type} (l : Launch) (y : MethodName) (cc : ByteArray) (nL : Nat) (ret : Option FieldType) (rm : Room) (D : va_G) (tys : List (ClassId × FieldType)) (av : List Value) (ws : va_W) (ov : Option Value) (f : S → va_W) (mc ms : Nat) : Prop := ∀ sz : Nat, Met l y (.code y cc nL ret :: WB) rm (va_Pc av (gz_P D tys ws sz)) (gz_QX D tys ov f (va_A ws sz)) mc ms (va_A ws sz)
theorem gz_metX {S : Type} (l : Launch) {y : MethodName} {cc : ByteArray} {nL : Nat} {ret : Option FieldType} {ov : Option Value} {rm : Room} {D : va_G} {tys : List (ClassId × FieldType)} {av : List Value} {ws : va_W} {f : S → va_W} {mc ms : Nat} (hy : plainName y.cls = true) (hlen : (lg_sl av).length ≤ nL) (lv : List (Nat × Value)) (hlv : lv_args 0 av = lv)
    (body : ∀ (sz : Nat) (p : Program) (e : Env) (s : State) (m : MethodId) (args : Array Value) (below : List Frame) (meth : Method) (c : Code), gz_C p s m args c cc nL y.cls D tys (va_A ws sz) → meth.sig.returnType = ret → meth.locks = false → meth.name = y.name → GZ p l e rm s m args below meth c nL D (va_A ws sz) 0 0 (MQ below (gz_QX D tys ov f (va_A ws sz)) args s mc ms (va_A ws sz)) ws lv [] 0) : gz_MX l y cc nL ret rm D tys av ws ov f mc ms := by
  intro sz
  refine Met.ofW (cc := cc) (maxL := nL) (ret := ret) hy rfl ?_
  intro p e s m args below meth c s₁ B hml hv
  obtain ⟨rfl, hsz, hP, hK, hD0, hNw⟩ := hv
  have hts := atoms_spec (ws := .code y cc nL ret :: WB) B.pre
  subst hsz
  subst hlv
  have hl := lv_entry av (n := nL) hlen
  rw [lg_entry_eq]
  exact body s.heap.size p e s m _ below meth c ⟨B.exec, B.bytes, hml, findClass_of_methodNamed B.named, fun w hw => hts w (List.mem_cons_of_mem _ hw), hK, fun q h => Or.inr h, hNw⟩ B.returns B.notSynchronized (name_of_methodNamed B.named B.method).1 s.heap [] _ hP hD0.self va_S.rf hl
section GZ2
variable {p : Program} {l : Launch} {e : Env} {R : Room} {s : State} {m : MethodId} {args : Array Value} {below : List Frame} {meth : Method} {c : Code} {cells slots : Nat} {Q : State → Prop}
variable {cc : ByteArray} {pc nL : Nat} {own : String} {D : va_G} {tys : List (ClassId × FieldType)} {A : Nat → Prop} {ws ws2 : va_W} {lv lv2 : List (Nat × Value)} {st : List Value}
/-- a new array of a class of arrays that is known -/
theorem gz_newa (C : gz_C p s m args c cc nL own D tys A) {atype : ArrayType} (harr : Cond.arrayClass (newarray.typeOf atype) ∈ WB) (t0 : Nat) {cA : ClassId} (ht : tys[t0]? = some (cA, newarray.typeOf atype)) {N : Nat} {a0 : vp_A} (ha : ∀ cA : ClassId, vp_cell cA a0 = arrV cA N (fun _ => defaultValue (newarray.typeOf atype))) (hN : N < 2 ^ 31) (hbytes : N * componentBytes (newarray.typeOf atype) ≤ 536870912) (hcells : cells + 1 ≤ R.cells) (hslots : slots + N ≤ R.slots) (hdg : decode cc pc = .ok (.newarray atype, 2))
    (kk : ∀ q : Nat, GZ p l e R s m args below meth c nL D A (cells + 1) (slots + N) Q (ws ++ [(q, .inl (cA, a0))]) lv (.ref q :: st) (pc + 2)) : GZ p l e R s m args below meth c nL D A cells slots Q ws lv (.int (nI N) :: st) pc := by
  intro H locs ls hP hD hS hl
  refine va_newa C.1 C.2.1 (C.2.2.2.2.1 _ harr) rfl C.2.2.2.2.2.1 hP hD hS C.2.2.2.2.2.2.1 ha (nI_pos hN) (nI_clamp hN) hbytes hcells hslots hdg (fun q cB H1 hK1 hP1 hD1 hS1 => ?_)
  have h1 := (C.2.2.2.2.2.1.2 t0 _ ht).2
  have h2 := (hK1.2 tys.length (cB, newarray.typeOf atype) (by simp)).2
  have e := va_RA_inj h1 h2
  subst e
  exact kk q H1 locs ls hP1 hD1 hS1 hl
theorem gz_new (C : gz_C p s m args c cc nL own D tys A) {CN : String} {T : u_T} {N ci index : Nat} (hin : ∀ w ∈ u_ws CN T N, w ∈ WB) (ty : Nat → FieldType) (hty : ∀ k, k < N → parseFieldDescriptor (T k).2.2.1 = some (ty k)) (hcl : Cond.classLink own index CN ∈ WB) (hinst : Cond.instantiable CN N ∈ WB) (hini : Cond.initialized CN ∈ WB) (hc : vwCl[ci]? = some (CN, T, N)) {fs : List Value} (hfs : ∀ j, j < N → defaultValue (ty j) = vp_V fs j) (hcells : cells + 1 ≤ R.cells) (hslots : slots + N ≤ R.slots) (hdg : decode cc pc = .ok (.new index, 3))
    (kk : ∀ q : Nat, GZ p l e R s m args below meth c nL D A (cells + 1) (slots + N) Q (ws ++ [(q, .inr (ci, fs))]) lv (.ref q :: st) (pc + 3)) : GZ p l e R s m args below meth c nL D A cells slots Q ws lv st pc := by
  intro H locs ls hP hD hS hl
  exact va_new C.1 C.2.1 C.2.2.2.2.1 hin ty hty C.2.2.2.1 (C.2.2.2.2.1 _ hcl) (C.2.2.2.2.1 _ hinst) (C.2.2.2.2.1 _ hini) C.2.2.2.2.2.1 hP hD hS C.2.2.2.2.2.2.1 hc hfs hcells hslots hdg (fun q H1 hP1 hD1 hS1 => kk q H1 locs ls hP1 hD1 hS1 hl)
theorem gz_objInit (C : gz_C p s m args c cc nL own D tys A) {idx : Nat} {a : Nat} (h1 : Cond.methodLink own idx Lib.objectInit ∈ WB) (h2 : Cond.instanceMethod Lib.objectInit ∈ WB) (h3 : Cond.code Lib.objectInit ⟨#[0xb1]⟩ 1 none ∈ WB) (hd : decode cc pc = .ok (.invokespecial idx, 3)) (hf : 1 ≤ R.frames) (hlo : (st.map fun v => v.category).sum + 12 ≤ R.locals)
    (kk : GZ p l e R s m args below meth c nL D A cells slots Q ws lv st (pc + 3)) : GZ p l e R s m args below meth c nL D A cells slots Q ws lv (.ref a :: st) pc := by
  intro H locs ls hP hD hS hl
  refine W.objInit C.1 C.2.1 C.2.2.2.1 (C.2.2.2.2.1 _ h1) (C.2.2.2.2.1 _ h2) (C.2.2.2.2.1 _ h3) rfl (hl.1.trans C.2.2.1.symm) rfl hd hf (by show 2 * 0 + _ + 12 ≤ _; omega) ?_
  exact kk H locs ls hP hD hS hl
variable {y : MethodName} {rm : Room} {mc ms : Nat} {S : Type} {f : S → va_W} {ov : Option Value} {ret : Option FieldType}
theorem gz_iretX (C : gz_C p s m args c cc nL own D tys A) {v : Int32} (hr : meth.sig.returnType = some .int) (hk : meth.locks = false) (hov : some (.int v) = ov) (u : S) (hws : ws = f u) (hc : cells ≤ mc) (hs : slots ≤ ms) (hdg : decode cc pc = .ok (.ireturn, 1)) : GZ p l e R s m args below meth c nL D A cells slots (MQ below (gz_QX D tys ov f A) args s mc ms A) ws lv [.int v] pc := by
  intro H locs ls hP hD hS hl
  subst hov; subst hws
  refine W.widen hc hs ?_
  exact W.iret (v := v) C.1 C.2.1 hr (fun t ht hW => ⟨rfl, ⟨u, by rw [ht]; exact hP, va_K.moved hW.alike C.2.2.2.2.2.1, hD⟩, hS.F ht⟩) hS.2.2 hdg hk
theorem gz_zretX (C : gz_C p s m args c cc nL own D tys A) {v : Int32} (hr : meth.sig.returnType = some .boolean) (hk : meth.locks = false) (hn : narrow .boolean (.int v) = .int v) (hov : some (.int v) = ov) (u : S) (hws : ws = f u) (hc : cells ≤ mc) (hs : slots ≤ ms) (hdg : decode cc pc = .ok (.ireturn, 1)) : GZ p l e R s m args below meth c nL D A cells slots (MQ below (gz_QX D tys ov f A) args s mc ms A) ws lv [.int v] pc := by
  intro H locs ls hP hD hS hl
  subst hov; subst hws
  refine W.widen hc hs ?_
  exact W.zret (v := v) C.1 C.2.1 hr hn (fun t ht hW => ⟨rfl, ⟨u, by rw [ht]; exact hP, va_K.moved hW.alike C.2.2.2.2.2.1, hD⟩, hS.F ht⟩) hS.2.2 hdg hk
theorem gz_lretX (C : gz_C p s m args c cc nL own D tys A) {v : Int64} (hr : meth.sig.returnType = some .long) (hk : meth.locks = false) (hov : some (.long v) = ov) (u : S) (hws : ws = f u) (hc : cells ≤ mc) (hs : slots ≤ ms) (hdg : decode cc pc = .ok (.lreturn, 1)) : GZ p l e R s m args below meth c nL D A cells slots (MQ below (gz_QX D tys ov f A) args s mc ms A) ws lv [.long v] pc := by
  intro H locs ls hP hD hS hl
  subst hov; subst hws
  refine W.widen hc hs ?_
  exact W.lret (v := v) C.1 C.2.1 hr (fun t ht hW => ⟨rfl, ⟨u, by rw [ht]; exact hP, va_K.moved hW.alike C.2.2.2.2.2.1, hD⟩, hS.F ht⟩) hS.2.2 hdg hk
theorem gz_vretX (C : gz_C p s m args c cc nL own D tys A) (hr : meth.sig.returnType = none) (hk : meth.locks = false) (hov : none = ov) (u : S) (hws : ws = f u) (hc : cells ≤ mc) (hs : slots ≤ ms) (hdg : decode cc pc = .ok (.return_, 1)) : GZ p l e R s m args below meth c nL D A cells slots (MQ below (gz_QX D tys ov f A) args s mc ms A) ws lv [] pc := by
  intro H locs ls hP hD hS hl
  subst hov; subst hws
  refine W.widen hc hs ?_
  exact W.vret C.1 C.2.1 hr (fun t ht hW => ⟨rfl, ⟨u, by rw [ht]; exact hP, va_K.moved hW.alike C.2.2.2.2.2.1, hD⟩, hS.F ht⟩) hS.2.2 hdg hk
theorem gz_backX {wc wr : va_W} {tys1 : List (ClassId × FieldType)} {a : Array Value} {rest : List Value} {H : Heap} {locs : List Loc} {ls : Array Slot} (isC isR : List Nat) (hC : isC.map (fun i => ws[i]?) = wc.map some) (hR : isR.map (fun i => ws[i]?) = wr.map some) (hn : va_nd isR = true) (hdis : ∀ i ∈ isR, i ∉ isC)
    (hA : ∀ q : Nat, s.heap.size ≤ q → A q) (hP : va_P D vwCl ws H) (hD : va_D A ws) (hS : va_S A s.heap H locs) (hl : lv_has ls nL lv)
    (hr : va_Run p l e R s m args below meth c H locs cells slots mc ms (F0 m pc ls st) rest (gz_QX D tys1 ov f (va_A wc H.size) a) (va_A wc H.size))
    (kk : ∀ u, GZ p l e R s m args below meth c nL D A (cells + mc) (slots + ms) Q (wr ++ f u) lv (ov.toList ++ rest) (pc + 3)) : W p l e R s m args below meth c H locs cells slots Q (F0 m pc ls st) := by
  have hF := va_free (wc := wc) hD hS hA isC hC
  intro T hT X
  obtain ⟨v, st₀, t, T', L, h0, X', hL, e1, e2, ⟨hv, ⟨u, hP1, hK1, hD1⟩, hz, hk⟩, stp⟩ := hr T hT X
  cases hv
  rw [h0] at hz hk
  obtain ⟨hPn, hDn⟩ := va_join hP hD isC isR hC hR hn hdis (H1 := T'.heap) (fun q h1 h2 => by rw [e1]; exact hk q h1 h2) hF (by rw [e1]; exact hP1) hD1
  obtain ⟨t2, a1, b1⟩ := kk u T'.heap (locs ++ L) ls hPn hDn ⟨Nat.le_trans hS.1 (by rw [e1]; exact hz), fun q h1 h2 => by rw [e1, hk q (Nat.lt_of_lt_of_le h1 hS.1) (fun z => h2 (hF q z))]; exact hS.2.1 q h1 h2, fun q hq => by
      rcases List.mem_append.mp hq with h | h
      · exact hS.2.2 q h
      · exact hF _ (hL q h)⟩ hl T' rfl X'
  exact ⟨t2, stp t2 a1, b1⟩
theorem gz_callIX (C : gz_C p s m args c cc nL own D tys A) {cc2 : ByteArray} {nL2 index n : Nat} {b : Nat} {As rest : List Value} {wc wr : va_W} {tys1 : List (ClassId × FieldType)} (hM : gz_MX l y cc2 nL2 none rm D tys1 (.ref b :: As) wc none f mc ms) (hcode : Cond.code y cc2 nL2 none ∈ WB) (hini : Cond.initialized y.cls ∈ WB) (hl1 : Cond.methodLink own index y ∈ WB) (hinm : Cond.instanceMethod y ∈ WB) (hy1 : y.name = "<init>")
    (hd : y.cls ≠ "java/lang/invoke/MethodHandle" ∧ y.cls ≠ "java/lang/invoke/VarHandle" ∧ (parseMethodDescriptor y.desc).map (fun d => d.parameters.length) = some n) (hR0 : (rm.cells = mc ∧ rm.slots = ms) ∧ rm.frames + 1 ≤ R.frames ∧ 8 + (nL2 + 11) + rm.locals ≤ R.locals)
    (isC isR isT : List Nat) (hC : isC.map (fun i => ws[i]?) = wc.map some) (hR : isR.map (fun i => ws[i]?) = wr.map some) (hT : isT.filterMap (fun i => tys[i]?) = tys1) (hn : va_nd isC = true ∧ va_nd isR = true ∧ ∀ i ∈ isR, i ∉ isC)
    (hlen : As.length = n) (hst : st = As.reverse ++ .ref b :: rest) (hrs : (rest.map fun v => v.category).sum ≤ 8) (hdg : decode cc pc = .ok (.invokespecial index, 3)) (hf : cells + mc ≤ R.cells ∧ slots + ms ≤ R.slots)
    (kk : ∀ u, GZ p l e R s m args below meth c nL D A (cells + mc) (slots + ms) Q (wr ++ f u) lv rest (pc + 3)) : GZ p l e R s m args below meth c nL D A cells slots Q ws lv st pc := by
  intro H locs ls hP hD hS hl
  have hPc : va_P D vwCl wc H := hP.sub isC (by have h3 := congrArg (List.filterMap id) hC; simpa [List.filterMap_map, Function.comp] using h3)
  have hDc := hD.sub isC hn.1 hC
  have hKc := C.2.2.2.2.2.1.sub isT hT
  exact gz_backX isC isR hC hR hn.2.1 hn.2.2 C.2.2.2.2.2.2.1 hP hD hS hl (va_runI (As := As) (rest := rest) ⟨C.1, C.2.1, C.2.2.1, C.2.2.2.1, C.2.2.2.2.1⟩ (hM H.size) (cwI n C.2.2.2.2.1 (WB_code hcode) rfl hR0.1.1 hR0.1.2 (C.2.2.2.2.1 _ hini) (C.2.2.2.2.1 _ hl1) (C.2.2.2.2.1 _ hinm) hy1 hd hR0.2) ⟨gz_blind, fun U hU hW => ⟨rfl, by rw [hU], by rw [hU]; exact hPc, va_K.moved hW.alike hKc, hDc.weaken (fun _ _ _ _ => trivial), NWs_warm hW C.2.2.2.2.2.2.2⟩⟩ rfl hlen hl.1 hst (lv_room hrs) hdg hf) kk
theorem gz_callIN (C : gz_C p s m args c cc nL own D tys A) {cc2 : ByteArray} {nL2 index n : Nat} {b : Nat} {As rest : List Value} {wc wr : va_W} {tys1 : List (ClassId × FieldType)} {host : String} (hM : gz_MX l y cc2 nL2 none rm D tys1 (.ref b :: As) wc none f mc ms) (hcode : Cond.code y cc2 nL2 none ∈ WB) (hini : Cond.initialized y.cls ∈ WB) (hl1 : va_Nw (Cond.methodLinkNest own index y host) s) (hinm : Cond.instanceMethod y ∈ WB) (hy1 : y.name = "<init>")
    (hd : y.cls ≠ "java/lang/invoke/MethodHandle" ∧ y.cls ≠ "java/lang/invoke/VarHandle" ∧ (parseMethodDescriptor y.desc).map (fun d => d.parameters.length) = some n) (hR0 : (rm.cells = mc ∧ rm.slots = ms) ∧ rm.frames + 1 ≤ R.frames ∧ 8 + (nL2 + 11) + rm.locals ≤ R.locals)
    (isC isR isT : List Nat) (hC : isC.map (fun i => ws[i]?) = wc.map some) (hR : isR.map (fun i => ws[i]?) = wr.map some) (hT : isT.filterMap (fun i => tys[i]?) = tys1) (hn : va_nd isC = true ∧ va_nd isR = true ∧ ∀ i ∈ isR, i ∉ isC)
    (hlen : As.length = n) (hst : st = As.reverse ++ .ref b :: rest) (hrs : (rest.map fun v => v.category).sum ≤ 8) (hdg : decode cc pc = .ok (.invokespecial index, 3)) (hf : cells + mc ≤ R.cells ∧ slots + ms ≤ R.slots)
    (kk : ∀ u, GZ p l e R s m args below meth c nL D A (cells + mc) (slots + ms) Q (wr ++ f u) lv rest (pc + 3)) : GZ p l e R s m args below meth c nL D A cells slots Q ws lv st pc := by
  intro H locs ls hP hD hS hl
  have hPc : va_P D vwCl wc H := hP.sub isC (by have h3 := congrArg (List.filterMap id) hC; simpa [List.filterMap_map, Function.comp] using h3)
  have hDc := hD.sub isC hn.1 hC
  have hKc := C.2.2.2.2.2.1.sub isT hT
  exact gz_backX isC isR hC hR hn.2.1 hn.2.2 C.2.2.2.2.2.2.1 hP hD hS hl (va_runIN (As := As) (rest := rest) ⟨C.1, C.2.1, C.2.2.1, C.2.2.2.1, C.2.2.2.2.1⟩ (hM H.size) ⟨va_cnB n C.2.2.2.2.1 (WB_code hcode) rfl hR0.1.1 hR0.1.2 hl1 (C.2.2.2.2.1 _ hini) hd hR0.2, hy1, C.2.2.2.2.1 _ hinm⟩ ⟨gz_blind, fun U hU hW => ⟨rfl, by rw [hU], by rw [hU]; exact hPc, va_K.moved hW.alike hKc, hDc.weaken (fun _ _ _ _ => trivial), NWs_warm hW C.2.2.2.2.2.2.2⟩⟩ rfl hlen hl.1 hst (lv_room hrs) hdg hf) kk
theorem gz_callVX (C : gz_C p s m args c cc nL own D tys A) {cc2 : ByteArray} {nL2 index n : Nat} {CN : String} {b : Nat} {As rest : List Value} {wc wr : va_W} {tys1 : List (ClassId × FieldType)} {ci : Nat} {T : u_T} {N : Nat} {fs : List Value} (hM : gz_MX l y cc2 nL2 ret rm D tys1 (.ref b :: As) wc ov f mc ms) (hG : GoodIn WB (wsV own index CN y (.code y cc2 nL2 ret :: WB)))
    (hd : y.cls = CN ∧ y.cls ≠ "java/lang/invoke/MethodHandle" ∧ y.cls ≠ "java/lang/invoke/VarHandle" ∧ (parseMethodDescriptor y.desc).map (fun d => d.parameters.length) = some n) (hR0 : (rm.cells = mc ∧ rm.slots = ms) ∧ rm.frames + 1 ≤ R.frames ∧ 8 + (nL2 + 11) + rm.locals ≤ R.locals)
    (isC isR isT : List Nat) (hC : isC.map (fun i => ws[i]?) = wc.map some) (hR : isR.map (fun i => ws[i]?) = wr.map some) (hT : isT.filterMap (fun i => tys[i]?) = tys1) (hn : va_nd isC = true ∧ va_nd isR = true ∧ ∀ i ∈ isR, i ∉ isC) {g : S → va_W} (h2 : ∀ u, wr ++ f u = g u)
    (q0 : Nat) (hb : ws[q0]? = some (b, .inr (ci, fs))) (hci : vwCl[ci]? = some (CN, T, N)) (hlen : As.length = n) (hst : st = As.reverse ++ .ref b :: rest) (hrs : (rest.map fun v => v.category).sum ≤ 8) (hdg : decode cc pc = .ok (.invokevirtual index, 3)) (hf : cells + mc ≤ R.cells ∧ slots + ms ≤ R.slots) {st2 : List Value} (h3 : ov.toList ++ rest = st2) {cells2 slots2 : Nat} (hc2 : cells + mc = cells2) (hs2 : slots + ms = slots2)
    (kk : ∀ u, GZ p l e R s m args below meth c nL D A cells2 slots2 Q (g u) lv st2 (pc + 3)) : GZ p l e R s m args below meth c nL D A cells slots Q ws lv st pc := by
  subst h3; subst hc2; subst hs2
  intro H locs ls hP hD hS hl
  have hPc : va_P D vwCl wc H := hP.sub isC (by have h3 := congrArg (List.filterMap id) hC; simpa [List.filterMap_map, Function.comp] using h3)
  have hDc := hD.sub isC hn.1 hC
  have hKc := C.2.2.2.2.2.1.sub isT hT
  exact gz_backX isC isR hC hR hn.2.1 hn.2.2 C.2.2.2.2.2.2.1 hP hD hS hl (va_runV (As := As) (rest := rest) ⟨C.1, C.2.1, C.2.2.1, C.2.2.2.1, C.2.2.2.2.1⟩ (hM H.size) (cwV n C.2.2.2.2.1 hG rfl hR0.1.1 hR0.1.2 hd hR0.2) ⟨gz_blind, va_recv C.2.2.2.2.2.1 hP hci hb, fun U hU hW => ⟨rfl, by rw [hU], by rw [hU]; exact hPc, va_K.moved hW.alike hKc, hDc.weaken (fun _ _ _ _ => trivial), NWs_warm hW C.2.2.2.2.2.2.2⟩⟩ rfl hlen hl.1 hst (lv_room hrs) hdg hf) (fun u => by rw [h2 u]; exact kk u)
end GZ2


def f0_reckonSets_dl (ct : Nat) (dl : Nat) : Nat := (if ((2 ^ ct) * ct) ≤ dl then dl else (2 ^ ct) * ct)
def f0_reckonSets_dnv (tkv : Nat → Int64) (opv : Nat → Int64) (shv : Nat → Int64) (wyv : Nat → Int64) (bdv : Nat → Bool) (ct : Nat) (sta : Nat) (stc : Int64) (fev : Nat → Nat) (dl : Nat) (dnv : Nat → Int64) : Nat → Int64 := (if ((2 ^ ct) * ct) ≤ dl then (f0_reckonSets_lpb tkv opv shv wyv bdv ct sta stc fev ((2 ^ ct) - 1) 1 dnv).2 else (f0_reckonSets_lpb tkv opv shv wyv bdv ct sta stc fev ((2 ^ ct) - 1) 1 (fun _ => 0)).2)
set_option maxRecDepth 100000 in
set_option maxHeartbeats 4000000 in
theorem kX0_reckonSets (l : Launch) (D : va_G) (xo : Nat) (nt : Nat) (es : Nat) (ro : Nat) (ad : Nat → Nat) (cI : ClassId) (cJ : ClassId) (cZ : ClassId) (ln : Int32) (fz : Nat) (sx : Bool) (mo : Int32) (sn : Nat) (bw : Int32) (tkv : Nat → Int64) (opv : Nat → Int64) (shv : Nat → Int64) (ldv : Nat → Int32) (wyv : Nat → Int64) (bdv : Nat → Bool) (ct : Nat) (dA : Nat) (sta : Nat) (stc : Int64) (fev : Nat → Nat) (dl : Nat) (dnv : Nat → Int64) (rov : Nat → Nat) (hct : ct ≤ 11) (hfe : ∀ k, k < ct → fev k ≤ 20) (hsa : sta ≤ 20) (hdm : dl ≤ 22528) : gz_MX l yX0_reckonSets cX0_reckonSets 5 none ({ frames := 4, cells := (if dl < 2 ^ ct * ct then 1 else 0), slots := (if dl < 2 ^ ct * ct then 2 ^ ct * ct else 0), locals := 99 } : Room) D [(cI, .int), (cJ, .long), (cZ, .boolean)] [.ref es, .ref nt] (wC xo nt es ro ad cI cJ cZ ln fz sx mo sn bw tkv opv shv ldv wyv bdv ct dA dA sta stc fev dl dnv rov) (none) (fun dA' : Nat => (wC xo nt es ro ad cI cJ cZ ln fz sx mo sn bw tkv opv shv ldv wyv bdv ct dA' dA' sta stc fev (f0_reckonSets_dl ct dl) (f0_reckonSets_dnv tkv opv shv wyv bdv ct sta stc fev dl dnv) rov)) (if dl < 2 ^ ct * ct then 1 else 0) (if dl < 2 ^ ct * ct then 2 ^ ct * ct else 0) := by
  refine gz_metX l (by decide) (Nat.le_of_ble_eq_true rfl) [(0, .ref es), (1, .ref nt)] rfl ?_
  intro sz p e s m args below meth c C hr hk hnm
  have C : gz_C p s m args c cX0_reckonSets 5 RX0 D [(cI, .int), (cJ, .long), (cZ, .boolean)] (va_A (wC xo nt es ro ad cI cJ cZ ln fz sx mo sn bw tkv opv shv ldv wyv bdv ct dA dA sta stc fev dl dnv rov) sz) := C
  have hp := bz_pow hct
  have hp2 : 2 ^ ct * ct ≤ 22528 := Nat.mul_le_mul hp hct
  refine gz_iconst (v := nI 1) C dX0_reckonSets_0 (by decide) ?_
  refine gz_aload_n C 0 dX0_reckonSets_1 rfl ?_
  refine gz_get (ci := 1) C iwX0 8 rfl rfl 1 (by decide) wk_64 rfl rfl dX0_reckonSets_2 ?_
  refine gz_ishl (v := nI (2 ^ ct)) C dX0_reckonSets_5 (bz_shl (by omega)) ?_
  refine gz_istore_n (lv2 := [(2, .int (nI (2 ^ ct))), (0, .ref es), (1, .ref nt)]) C dX0_reckonSets_6 (by decide) rfl ?_
  refine gz_aload_n C 1 dX0_reckonSets_7 rfl ?_
  refine gz_get (ci := 1) C iwX0 8 rfl rfl 2 (by decide) wk_65 rfl rfl dX0_reckonSets_8 ?_
  refine gz_alen C 10 1 rfl rfl dX0_reckonSets_11 ?_
  refine gz_iload_n C 0 dX0_reckonSets_12 rfl ?_
  refine gz_aload_n C 1 dX0_reckonSets_13 rfl ?_
  refine gz_get (ci := 1) C iwX0 8 rfl rfl 1 (by decide) wk_64 rfl rfl dX0_reckonSets_14 ?_
  refine gz_imul (v := nI ((2 ^ ct) * ct)) C dX0_reckonSets_17 (pk_mul _ _) ?_
  refine gz_ncmp_ge C 33 (by omega) (by omega) dX0_reckonSets_18 (by decide) (fun h_1 => ?_) (fun h_1 => ?_)
  · skip
    refine gz_iconst (v := nI 1) C dX0_reckonSets_33 (by decide) ?_
    refine gz_istore_n (lv2 := [(3, .int (nI 1)), (2, .int (nI (2 ^ ct))), (0, .ref es), (1, .ref nt)]) C dX0_reckonSets_34 (by decide) rfl ?_
    refine gz_lv (lv2 := [(0, .ref es), (1, .ref nt), (2, .int (nI (2 ^ ct))), (3, .int (nI 1))]) [2, 3, 1, 0] rfl ?_
    refine lX0_reckonSets_lpb xo nt es ro ad cI cJ cZ ln fz sx mo sn bw tkv opv shv ldv wyv bdv ct dA sta stc fev dl rov (2 ^ ct) (by first | assumption | omega) (by first | assumption | omega) (by first | assumption | omega) (by first | assumption | omega) (by first | assumption | omega) rfl ⟨Nat.le_of_ble_eq_true rfl, Nat.le_of_ble_eq_true rfl⟩ ⟨Nat.zero_le _, Nat.zero_le _⟩ C ((2 ^ ct) - 1) 1 dnv (by have := bz_pow1 ct; omega)  ?_
    intro zme_lpb
    exact gz_vretX C hr hk (by first | rfl | (simp only [f0_reckonSets_dl, f0_reckonSets_dnv, if_pos h_1]) | (simp only [f0_reckonSets_dl, f0_reckonSets_dnv, if_pos h_1]; rfl)) dA (by first | rfl | (simp only [f0_reckonSets_dl, f0_reckonSets_dnv, if_pos h_1]) | (simp only [f0_reckonSets_dl, f0_reckonSets_dnv, if_pos h_1]; rfl)) (Nat.zero_le _) (Nat.zero_le _) dX0_reckonSets_105
  · have g_1 : ¬ (((2 ^ ct) * ct) ≤ dl) := (Nat.not_le.mpr h_1)
    refine gz_aload_n C 1 dX0_reckonSets_21 rfl ?_
    refine gz_iload_n C 0 dX0_reckonSets_22 rfl ?_
    refine gz_aload_n C 1 dX0_reckonSets_23 rfl ?_
    refine gz_get (ci := 1) C iwX0 8 rfl rfl 1 (by decide) wk_64 rfl rfl dX0_reckonSets_24 ?_
    refine gz_imul (v := nI ((2 ^ ct) * ct)) C dX0_reckonSets_27 (pk_mul _ _) ?_
    refine gz_newa (atype := .long) (N := (2 ^ ct) * ct) (a0 := ((2 ^ ct) * ct, .inr (.inl (fun _ => 0)))) C wk_54 1 rfl (fun _ => rfl) (by omega) (by show (2 ^ ct) * ct * 8 ≤ 536870912; omega) (by show 0 + 1 ≤ (if dl < 2 ^ ct * ct then 1 else 0); rw [if_pos h_1]; exact Nat.le_refl _) (by show 0 + (2 ^ ct) * ct ≤ (if dl < 2 ^ ct * ct then 2 ^ ct * ct else 0); rw [if_pos h_1]; omega) dX0_reckonSets_28 (fun qn => ?_)
    refine gz_put (ci := 1) (ws2 := (wC xo nt es ro ad cI cJ cZ ln fz sx mo sn bw tkv opv shv ldv wyv bdv ct qn dA sta stc fev dl dnv rov) ++ [(qn, .inl (cJ, (2 ^ ct) * ct, .inr (.inl (fun _ => 0))))]) C iwX0 8 rfl rfl 2 (by decide) wk_65 rfl tyX0 tyX0_ok nmX0 rfl rfl rfl rfl (Nat.le_of_ble_eq_true rfl) rfl dX0_reckonSets_30 ?_
    refine gz_ws (ws2 := (wC xo nt es ro ad cI cJ cZ ln fz sx mo sn bw tkv opv shv ldv wyv bdv ct qn qn sta stc fev ((2 ^ ct) * ct) (fun _ => 0) rov)) [0, 1, 2, 3, 4, 5, 6, 7, 8, 9, 12, 11] (by decide) rfl ?_
    refine gz_iconst (v := nI 1) C dX0_reckonSets_33 (by decide) ?_
    refine gz_istore_n (lv2 := [(3, .int (nI 1)), (2, .int (nI (2 ^ ct))), (0, .ref es), (1, .ref nt)]) C dX0_reckonSets_34 (by decide) rfl ?_
    refine gz_lv (lv2 := [(0, .ref es), (1, .ref nt), (2, .int (nI (2 ^ ct))), (3, .int (nI 1))]) [2, 3, 1, 0] rfl ?_
    refine lX0_reckonSets_lpb xo nt es ro ad cI cJ cZ ln fz sx mo sn bw tkv opv shv ldv wyv bdv ct qn sta stc fev ((2 ^ ct) * ct) rov (2 ^ ct) (by first | assumption | omega) (by first | assumption | omega) (by first | assumption | omega) (by first | assumption | omega) (by first | assumption | omega) rfl ⟨Nat.le_of_ble_eq_true rfl, Nat.le_of_ble_eq_true rfl⟩ ⟨(by show 0 + 1 ≤ (if dl < 2 ^ ct * ct then 1 else 0); rw [if_pos h_1]; exact Nat.le_refl _), (by show 0 + (2 ^ ct) * ct ≤ (if dl < 2 ^ ct * ct then 2 ^ ct * ct else 0); rw [if_pos h_1]; omega)⟩ C ((2 ^ ct) - 1) 1 (fun _ => 0) (by have := bz_pow1 ct; omega)  ?_
    intro zme_lpb
    exact gz_vretX C hr hk (by first | rfl | (simp only [f0_reckonSets_dl, f0_reckonSets_dnv, if_neg g_1]) | (simp only [f0_reckonSets_dl, f0_reckonSets_dnv, if_neg g_1]; rfl)) qn (by first | rfl | (simp only [f0_reckonSets_dl, f0_reckonSets_dnv, if_neg g_1]) | (simp only [f0_reckonSets_dl, f0_reckonSets_dnv, if_neg g_1]; rfl)) (by show 0 + 1 ≤ (if dl < 2 ^ ct * ct then 1 else 0); rw [if_pos h_1]; exact Nat.le_refl _) (by show 0 + (2 ^ ct) * ct ≤ (if dl < 2 ^ ct * ct then 2 ^ ct * ct else 0); rw [if_pos h_1]; omega) dX0_reckonSets_105


theorem q0_holds_lp {rov : Nat → Nat} {x : Nat} : ∀ n k, f1_holds_lp rov x n k = true ↔ ∃ i, k ≤ i ∧ i < k + n ∧ rov i = x := by
  intro n
  induction n with
  | zero =>
    intro k
    unfold f1_holds_lp
    constructor
    · intro h; cases h
    · rintro ⟨i, h1, h2, _⟩; omega
  | succ n ih =>
    intro k
    unfold f1_holds_lp
    by_cases c : rov k = x
    · rw [if_pos c]
      exact ⟨fun _ => ⟨k, Nat.le_refl _, by omega, c⟩, fun _ => rfl⟩
    · rw [if_neg c, ih]
      constructor
      · rintro ⟨i, h1, h2, h3⟩; exact ⟨i, by omega, by omega, h3⟩
      · rintro ⟨i, h1, h2, h3⟩
        by_cases e : i = k
        · subst e; exact absurd h3 c
        · exact ⟨i, by omega, by omega, h3⟩
theorem q0_holds {rov : Nat → Nat} {z x : Nat} : f1_holds rov z x = f3_isFrozen z rov x := by
  have h : f1_holds rov z x = true ↔ f3_isFrozen z rov x = true := by
    unfold f1_holds
    rw [q0_holds_lp, q3_isFr]
    constructor
    · rintro ⟨i, _, h2, h3⟩; exact ⟨i, by omega, h3⟩
    · rintro ⟨i, h2, h3⟩; exact ⟨i, Nat.zero_le _, by omega, h3⟩
  cases a : f1_holds rov z x <;> cases b : f3_isFrozen z rov x <;> simp_all
theorem q3_s1_mono {z : Nat} {rov : Nat → Nat} : ∀ (n k ct : Nat) (fev : Nat → Nat), ct ≤ (f3_solve_s1 z rov n k ct fev).2.1 ∧ ((f3_solve_s1 z rov n k ct fev).2.1 = ct → (f3_solve_s1 z rov n k ct fev).2.2 = fev) := by
  intro n
  induction n with
  | zero => intro k ct fev; exact ⟨Nat.le_refl _, fun _ => rfl⟩
  | succ n ih =>
    intro k ct fev
    unfold f3_solve_s1
    by_cases c : f3_isFrozen z rov k = true
    · simp only [if_pos c]; exact ih _ _ _
    · simp only [if_neg c]
      obtain ⟨a, b⟩ := ih (k + 1) (ct + 1) (va_up fev ct k)
      exact ⟨by omega, fun e => by omega⟩
theorem q0_cf {z : Nat} {rov : Nat → Nat} : ∀ (n k ct : Nat) (fev : Nat → Nat), (f3_solve_s1 z rov n k ct fev).2.1 ≤ 11 → (f0_collectFree_lp rov z n k ct fev).2.1 = (f3_solve_s1 z rov n k ct fev).2.1 ∧ (f0_collectFree_lp rov z n k ct fev).2.2 = (f3_solve_s1 z rov n k ct fev).2.2 := by
  intro n
  induction n with
  | zero => intro k ct fev _; exact ⟨rfl, rfl⟩
  | succ n ih =>
    intro k ct fev h
    unfold f0_collectFree_lp
    by_cases c : 11 ≤ ct
    · rw [if_pos c]
      obtain ⟨a, b⟩ := q3_s1_mono (z := z) (rov := rov) (n + 1) k ct fev
      have e : (f3_solve_s1 z rov (n + 1) k ct fev).2.1 = ct := by omega
      exact ⟨e.symm, (b e).symm⟩
    · rw [if_neg c, q0_holds]
      exact ih _ _ _ h
/-- the free stops of the class are those of the reference -/
theorem q0_free {z sn : Nat} {rov fev : Nat → Nat} (hi : q_row z sn rov) (hs : sn - z ≤ 11) : f0_collectFree_ct sn fev rov z = (f3_solve_s1 z rov sn 1 0 fev).2.1 ∧ f0_collectFree_fev sn fev rov z = (f3_solve_s1 z rov sn 1 0 fev).2.2 := by
  unfold f0_collectFree_ct f0_collectFree_fev
  have h := (q3_free (fev := fev) hi).1
  exact q0_cf sn 1 0 fev (by omega)
theorem q0_ff_sta {tkv opv shv wyv : Nat → Int64} {bdv : Nat → Bool} {rov : Nat → Nat} {z B : Nat} (hro : ∀ k, k < z → rov k ≤ B) : ∀ (n k sta : Nat) (stc : Int64), k + n = z → sta ≤ B → (f0_followFrozen_lp tkv opv shv wyv bdv rov n k sta stc).2.1 ≤ B := by
  intro n
  induction n with
  | zero => intro k sta stc _ h; exact h
  | succ n ih => intro k sta stc hk h; exact ih _ _ _ (by omega) (hro k (by omega))


def f0_fill (sn : Nat) (tkv : Nat → Int64) (opv : Nat → Int64) (shv : Nat → Int64) (wyv : Nat → Int64) (bdv : Nat → Bool) (fev : Nat → Nat) (dl : Nat) (dnv : Nat → Int64) (rov : Nat → Nat) (z : Nat) : Bool := (if (sn - z) ≤ 11 then (if (f0_followFrozen_stc tkv opv shv wyv bdv rov z) = 1000000000000000 then false else (if (f0_earliest tkv opv shv wyv bdv (f0_collectFree_ct sn fev rov z) (f0_followFrozen_sta tkv opv shv wyv bdv rov z) (f0_followFrozen_stc tkv opv shv wyv bdv rov z) (f0_collectFree_fev sn fev rov z) (f0_reckonSets_dnv tkv opv shv wyv bdv (f0_collectFree_ct sn fev rov z) (f0_followFrozen_sta tkv opv shv wyv bdv rov z) (f0_followFrozen_stc tkv opv shv wyv bdv rov z) (f0_collectFree_fev sn fev rov z) dl dnv) ((2 ^ (f0_collectFree_ct sn fev rov z)) - 1) 0) = 1000000000000000 then false else true)) else false)
def f0_fill_ct (sn : Nat) (tkv : Nat → Int64) (opv : Nat → Int64) (shv : Nat → Int64) (wyv : Nat → Int64) (bdv : Nat → Bool) (ct : Nat) (fev : Nat → Nat) (dl : Nat) (dnv : Nat → Int64) (rov : Nat → Nat) (z : Nat) : Nat := (if (sn - z) ≤ 11 then (if (f0_followFrozen_stc tkv opv shv wyv bdv rov z) = 1000000000000000 then ct else (if (f0_earliest tkv opv shv wyv bdv (f0_collectFree_ct sn fev rov z) (f0_followFrozen_sta tkv opv shv wyv bdv rov z) (f0_followFrozen_stc tkv opv shv wyv bdv rov z) (f0_collectFree_fev sn fev rov z) (f0_reckonSets_dnv tkv opv shv wyv bdv (f0_collectFree_ct sn fev rov z) (f0_followFrozen_sta tkv opv shv wyv bdv rov z) (f0_followFrozen_stc tkv opv shv wyv bdv rov z) (f0_collectFree_fev sn fev rov z) dl dnv) ((2 ^ (f0_collectFree_ct sn fev rov z)) - 1) 0) = 1000000000000000 then f0_collectFree_ct sn fev rov z else f0_collectFree_ct sn fev rov z)) else ct)
def f0_fill_sta (sn : Nat) (tkv : Nat → Int64) (opv : Nat → Int64) (shv : Nat → Int64) (wyv : Nat → Int64) (bdv : Nat → Bool) (sta : Nat) (fev : Nat → Nat) (dl : Nat) (dnv : Nat → Int64) (rov : Nat → Nat) (z : Nat) : Nat := (if (sn - z) ≤ 11 then (if (f0_followFrozen_stc tkv opv shv wyv bdv rov z) = 1000000000000000 then f0_followFrozen_sta tkv opv shv wyv bdv rov z else (if (f0_earliest tkv opv shv wyv bdv (f0_collectFree_ct sn fev rov z) (f0_followFrozen_sta tkv opv shv wyv bdv rov z) (f0_followFrozen_stc tkv opv shv wyv bdv rov z) (f0_collectFree_fev sn fev rov z) (f0_reckonSets_dnv tkv opv shv wyv bdv (f0_collectFree_ct sn fev rov z) (f0_followFrozen_sta tkv opv shv wyv bdv rov z) (f0_followFrozen_stc tkv opv shv wyv bdv rov z) (f0_collectFree_fev sn fev rov z) dl dnv) ((2 ^ (f0_collectFree_ct sn fev rov z)) - 1) 0) = 1000000000000000 then f0_followFrozen_sta tkv opv shv wyv bdv rov z else f0_followFrozen_sta tkv opv shv wyv bdv rov z)) else sta)
def f0_fill_stc (sn : Nat) (tkv : Nat → Int64) (opv : Nat → Int64) (shv : Nat → Int64) (wyv : Nat → Int64) (bdv : Nat → Bool) (stc : Int64) (fev : Nat → Nat) (dl : Nat) (dnv : Nat → Int64) (rov : Nat → Nat) (z : Nat) : Int64 := (if (sn - z) ≤ 11 then (if (f0_followFrozen_stc tkv opv shv wyv bdv rov z) = 1000000000000000 then f0_followFrozen_stc tkv opv shv wyv bdv rov z else (if (f0_earliest tkv opv shv wyv bdv (f0_collectFree_ct sn fev rov z) (f0_followFrozen_sta tkv opv shv wyv bdv rov z) (f0_followFrozen_stc tkv opv shv wyv bdv rov z) (f0_collectFree_fev sn fev rov z) (f0_reckonSets_dnv tkv opv shv wyv bdv (f0_collectFree_ct sn fev rov z) (f0_followFrozen_sta tkv opv shv wyv bdv rov z) (f0_followFrozen_stc tkv opv shv wyv bdv rov z) (f0_collectFree_fev sn fev rov z) dl dnv) ((2 ^ (f0_collectFree_ct sn fev rov z)) - 1) 0) = 1000000000000000 then f0_followFrozen_stc tkv opv shv wyv bdv rov z else f0_followFrozen_stc tkv opv shv wyv bdv rov z)) else stc)
def f0_fill_fev (sn : Nat) (tkv : Nat → Int64) (opv : Nat → Int64) (shv : Nat → Int64) (wyv : Nat → Int64) (bdv : Nat → Bool) (fev : Nat → Nat) (dl : Nat) (dnv : Nat → Int64) (rov : Nat → Nat) (z : Nat) : Nat → Nat := (if (sn - z) ≤ 11 then (if (f0_followFrozen_stc tkv opv shv wyv bdv rov z) = 1000000000000000 then fev else (if (f0_earliest tkv opv shv wyv bdv (f0_collectFree_ct sn fev rov z) (f0_followFrozen_sta tkv opv shv wyv bdv rov z) (f0_followFrozen_stc tkv opv shv wyv bdv rov z) (f0_collectFree_fev sn fev rov z) (f0_reckonSets_dnv tkv opv shv wyv bdv (f0_collectFree_ct sn fev rov z) (f0_followFrozen_sta tkv opv shv wyv bdv rov z) (f0_followFrozen_stc tkv opv shv wyv bdv rov z) (f0_collectFree_fev sn fev rov z) dl dnv) ((2 ^ (f0_collectFree_ct sn fev rov z)) - 1) 0) = 1000000000000000 then f0_collectFree_fev sn fev rov z else f0_collectFree_fev sn fev rov z)) else fev)
def f0_fill_dl (sn : Nat) (tkv : Nat → Int64) (opv : Nat → Int64) (shv : Nat → Int64) (wyv : Nat → Int64) (bdv : Nat → Bool) (fev : Nat → Nat) (dl : Nat) (dnv : Nat → Int64) (rov : Nat → Nat) (z : Nat) : Nat := (if (sn - z) ≤ 11 then (if (f0_followFrozen_stc tkv opv shv wyv bdv rov z) = 1000000000000000 then dl else (if (f0_earliest tkv opv shv wyv bdv (f0_collectFree_ct sn fev rov z) (f0_followFrozen_sta tkv opv shv wyv bdv rov z) (f0_followFrozen_stc tkv opv shv wyv bdv rov z) (f0_collectFree_fev sn fev rov z) (f0_reckonSets_dnv tkv opv shv wyv bdv (f0_collectFree_ct sn fev rov z) (f0_followFrozen_sta tkv opv shv wyv bdv rov z) (f0_followFrozen_stc tkv opv shv wyv bdv rov z) (f0_collectFree_fev sn fev rov z) dl dnv) ((2 ^ (f0_collectFree_ct sn fev rov z)) - 1) 0) = 1000000000000000 then f0_reckonSets_dl (f0_collectFree_ct sn fev rov z) dl else f0_reckonSets_dl (f0_collectFree_ct sn fev rov z) dl)) else dl)
def f0_fill_dnv (sn : Nat) (tkv : Nat → Int64) (opv : Nat → Int64) (shv : Nat → Int64) (wyv : Nat → Int64) (bdv : Nat → Bool) (fev : Nat → Nat) (dl : Nat) (dnv : Nat → Int64) (rov : Nat → Nat) (z : Nat) : Nat → Int64 := (if (sn - z) ≤ 11 then (if (f0_followFrozen_stc tkv opv shv wyv bdv rov z) = 1000000000000000 then dnv else (if (f0_earliest tkv opv shv wyv bdv (f0_collectFree_ct sn fev rov z) (f0_followFrozen_sta tkv opv shv wyv bdv rov z) (f0_followFrozen_stc tkv opv shv wyv bdv rov z) (f0_collectFree_fev sn fev rov z) (f0_reckonSets_dnv tkv opv shv wyv bdv (f0_collectFree_ct sn fev rov z) (f0_followFrozen_sta tkv opv shv wyv bdv rov z) (f0_followFrozen_stc tkv opv shv wyv bdv rov z) (f0_collectFree_fev sn fev rov z) dl dnv) ((2 ^ (f0_collectFree_ct sn fev rov z)) - 1) 0) = 1000000000000000 then f0_reckonSets_dnv tkv opv shv wyv bdv (f0_collectFree_ct sn fev rov z) (f0_followFrozen_sta tkv opv shv wyv bdv rov z) (f0_followFrozen_stc tkv opv shv wyv bdv rov z) (f0_collectFree_fev sn fev rov z) dl dnv else f0_reckonSets_dnv tkv opv shv wyv bdv (f0_collectFree_ct sn fev rov z) (f0_followFrozen_sta tkv opv shv wyv bdv rov z) (f0_followFrozen_stc tkv opv shv wyv bdv rov z) (f0_collectFree_fev sn fev rov z) dl dnv)) else dnv)
def f0_fill_rov (sn : Nat) (tkv : Nat → Int64) (opv : Nat → Int64) (shv : Nat → Int64) (wyv : Nat → Int64) (bdv : Nat → Bool) (fev : Nat → Nat) (dl : Nat) (dnv : Nat → Int64) (rov : Nat → Nat) (z : Nat) : Nat → Nat := (if (sn - z) ≤ 11 then (if (f0_followFrozen_stc tkv opv shv wyv bdv rov z) = 1000000000000000 then rov else (if (f0_earliest tkv opv shv wyv bdv (f0_collectFree_ct sn fev rov z) (f0_followFrozen_sta tkv opv shv wyv bdv rov z) (f0_followFrozen_stc tkv opv shv wyv bdv rov z) (f0_collectFree_fev sn fev rov z) (f0_reckonSets_dnv tkv opv shv wyv bdv (f0_collectFree_ct sn fev rov z) (f0_followFrozen_sta tkv opv shv wyv bdv rov z) (f0_followFrozen_stc tkv opv shv wyv bdv rov z) (f0_collectFree_fev sn fev rov z) dl dnv) ((2 ^ (f0_collectFree_ct sn fev rov z)) - 1) 0) = 1000000000000000 then rov else f0_readBack_rov tkv opv shv wyv bdv (f0_collectFree_ct sn fev rov z) (f0_collectFree_fev sn fev rov z) (f0_reckonSets_dnv tkv opv shv wyv bdv (f0_collectFree_ct sn fev rov z) (f0_followFrozen_sta tkv opv shv wyv bdv rov z) (f0_followFrozen_stc tkv opv shv wyv bdv rov z) (f0_collectFree_fev sn fev rov z) dl dnv) rov z (f0_earliest tkv opv shv wyv bdv (f0_collectFree_ct sn fev rov z) (f0_followFrozen_sta tkv opv shv wyv bdv rov z) (f0_followFrozen_stc tkv opv shv wyv bdv rov z) (f0_collectFree_fev sn fev rov z) (f0_reckonSets_dnv tkv opv shv wyv bdv (f0_collectFree_ct sn fev rov z) (f0_followFrozen_sta tkv opv shv wyv bdv rov z) (f0_followFrozen_stc tkv opv shv wyv bdv rov z) (f0_collectFree_fev sn fev rov z) dl dnv) ((2 ^ (f0_collectFree_ct sn fev rov z)) - 1) 0))) else rov)
set_option maxRecDepth 100000 in
set_option maxHeartbeats 4000000 in
theorem kX0_fill (l : Launch) (D : va_G) (xo : Nat) (nt : Nat) (es : Nat) (ro : Nat) (ad : Nat → Nat) (cI : ClassId) (cJ : ClassId) (cZ : ClassId) (ln : Int32) (fz : Nat) (sx : Bool) (mo : Int32) (sn : Nat) (bw : Int32) (tkv : Nat → Int64) (opv : Nat → Int64) (shv : Nat → Int64) (ldv : Nat → Int32) (wyv : Nat → Int64) (bdv : Nat → Bool) (ct : Nat) (dA : Nat) (sta : Nat) (stc : Int64) (fev : Nat → Nat) (dl : Nat) (dnv : Nat → Int64) (rov : Nat → Nat) (z : Nat) (hsn : sn ≤ 20) (hzs : z ≤ sn) (hri : q_row z sn rov) (hdm : dl ≤ 22528) : gz_MX l yX0_fill cX0_fill 6 (some .boolean) ({ frames := 6, cells := (if (sn - z) ≤ 11 then (if (f0_followFrozen_stc tkv opv shv wyv bdv rov z) = 1000000000000000 then 0 else (if dl < 2 ^ (f0_collectFree_ct sn fev rov z) * (f0_collectFree_ct sn fev rov z) then 1 else 0)) else 0), slots := (if (sn - z) ≤ 11 then (if (f0_followFrozen_stc tkv opv shv wyv bdv rov z) = 1000000000000000 then 0 else (if dl < 2 ^ (f0_collectFree_ct sn fev rov z) * (f0_collectFree_ct sn fev rov z) then 2 ^ (f0_collectFree_ct sn fev rov z) * (f0_collectFree_ct sn fev rov z) else 0)) else 0), locals := 156 } : Room) D [(cI, .int), (cJ, .long), (cZ, .boolean)] [.ref es, .ref nt, .ref ro, .int (nI z)] (wC xo nt es ro ad cI cJ cZ ln fz sx mo sn bw tkv opv shv ldv wyv bdv ct dA dA sta stc fev dl dnv rov) (some (.int (bI (f0_fill sn tkv opv shv wyv bdv fev dl dnv rov z)))) (fun dA' : Nat => (wC xo nt es ro ad cI cJ cZ ln fz sx mo sn bw tkv opv shv ldv wyv bdv (f0_fill_ct sn tkv opv shv wyv bdv ct fev dl dnv rov z) dA' dA' (f0_fill_sta sn tkv opv shv wyv bdv sta fev dl dnv rov z) (f0_fill_stc sn tkv opv shv wyv bdv stc fev dl dnv rov z) (f0_fill_fev sn tkv opv shv wyv bdv fev dl dnv rov z) (f0_fill_dl sn tkv opv shv wyv bdv fev dl dnv rov z) (f0_fill_dnv sn tkv opv shv wyv bdv fev dl dnv rov z) (f0_fill_rov sn tkv opv shv wyv bdv fev dl dnv rov z))) (if (sn - z) ≤ 11 then (if (f0_followFrozen_stc tkv opv shv wyv bdv rov z) = 1000000000000000 then 0 else (if dl < 2 ^ (f0_collectFree_ct sn fev rov z) * (f0_collectFree_ct sn fev rov z) then 1 else 0)) else 0) (if (sn - z) ≤ 11 then (if (f0_followFrozen_stc tkv opv shv wyv bdv rov z) = 1000000000000000 then 0 else (if dl < 2 ^ (f0_collectFree_ct sn fev rov z) * (f0_collectFree_ct sn fev rov z) then 2 ^ (f0_collectFree_ct sn fev rov z) * (f0_collectFree_ct sn fev rov z) else 0)) else 0) := by
  refine gz_metX l (by decide) (Nat.le_of_ble_eq_true rfl) [(0, .ref es), (1, .ref nt), (2, .ref ro), (3, .int (nI z))] rfl ?_
  intro sz p e s m args below meth c C hr hk hnm
  have C : gz_C p s m args c cX0_fill 6 RX0 D [(cI, .int), (cJ, .long), (cZ, .boolean)] (va_A (wC xo nt es ro ad cI cJ cZ ln fz sx mo sn bw tkv opv shv ldv wyv bdv ct dA dA sta stc fev dl dnv rov) sz) := C
  refine gz_aload_n C 1 dX0_fill_0 rfl ?_
  refine gz_getN (ci := 2) C iwX1 1 rfl rfl 0 (by decide) (nw_0 C.2.2.2.2.2.2.2) rfl rfl dX0_fill_1 ?_
  refine gz_iload_n C 3 dX0_fill_4 rfl ?_
  refine gz_isub (v := nI (sn - z)) C dX0_fill_5 (pk_sub (by first | omega | exact Nat.one_le_two_pow)) ?_
  refine gz_bipush (v := nI 11) C dX0_fill_6 (by decide) ?_
  refine gz_ncmp_le C 13 (by omega) (by omega) dX0_fill_8 (by decide) (fun h_1 => ?_) (fun h_1 => ?_)
  · skip
    refine gz_aload_n C 0 dX0_fill_13 rfl ?_
    refine gz_aload_n C 1 dX0_fill_14 rfl ?_
    refine gz_aload_n C 2 dX0_fill_15 rfl ?_
    refine gz_iload_n C 3 dX0_fill_16 rfl ?_
    refine gz_callV (wr := []) (n := 3) (ws2 := (wC xo nt es ro ad cI cJ cZ ln fz sx mo sn bw tkv opv shv ldv wyv bdv ct dA dA (f0_followFrozen_sta tkv opv shv wyv bdv rov z) (f0_followFrozen_stc tkv opv shv wyv bdv rov z) fev dl dnv rov)) (st2 := []) (cells2 := 0) (slots2 := 0) (ci := 1) C (kX0_followFrozen l D xo nt es ro ad cI cJ cZ ln fz sx mo sn bw tkv opv shv ldv wyv bdv ct dA sta stc fev dl dnv rov z (by first | assumption | omega) (fun k hk => by have := (hri.1 k hk).2; omega)) (WB_V wk_160 wk_162 ws_0 wk_3 wk_163) (by decide +kernel) ⟨⟨rfl, rfl⟩, Nat.le_of_ble_eq_true rfl, Nat.le_of_ble_eq_true rfl⟩ [0, 1, 2, 3, 4, 5, 6, 7, 8, 9, 10, 11] [] [0, 1, 2] rfl rfl rfl (by decide) rfl 8 rfl rfl rfl rfl (Nat.le_of_ble_eq_true rfl) dX0_fill_17 ⟨Nat.zero_le _, Nat.zero_le _⟩ rfl rfl rfl ?_
    refine gz_aload_n C 0 dX0_fill_20 rfl ?_
    refine gz_get (ci := 1) C iwX0 8 rfl rfl 4 (by decide) wk_67 rfl rfl dX0_fill_21 ?_
    refine gz_ldc2 (v := 1000000000000000) C wk_175 dX0_fill_24 ?_
    refine gz_lcmp_ne C 33 dX0_fill_27 dX0_fill_28 (by decide) (fun h_2 => ?_) (fun h_2 => ?_)
    · have g_2 : ¬ ((f0_followFrozen_stc tkv opv shv wyv bdv rov z) = 1000000000000000) := h_2
      have hsa9 : f0_followFrozen_sta tkv opv shv wyv bdv rov z ≤ 20 := q0_ff_sta (fun k hk => by have := (hri.1 k hk).2; omega) _ _ _ _ (by omega) (by omega)
      obtain ⟨hA, hB, hC⟩ := q3_free (fev := fev) hri
      obtain ⟨e1, e2⟩ := q0_free (fev := fev) hri (by omega)
      have hA9 : f0_collectFree_ct sn fev rov z + z = sn := by rw [e1]; exact hA
      have hB9 : ∀ j, j < f0_collectFree_ct sn fev rov z → 1 ≤ f0_collectFree_fev sn fev rov z j ∧ f0_collectFree_fev sn fev rov z j ≤ sn := fun j hj => by rw [e2]; rw [e1] at hj; exact ⟨(hB j hj).1, (hB j hj).2.1⟩
      have hp9 := bz_pow (f := f0_collectFree_ct sn fev rov z) (by omega)
      have hp8 : 2 ^ (f0_collectFree_ct sn fev rov z) * (f0_collectFree_ct sn fev rov z) ≤ 22528 := Nat.mul_le_mul hp9 (show f0_collectFree_ct sn fev rov z ≤ 11 by omega)
      have hdl9 : 2 ^ (f0_collectFree_ct sn fev rov z) * (f0_collectFree_ct sn fev rov z) ≤ f0_reckonSets_dl (f0_collectFree_ct sn fev rov z) dl := by unfold f0_reckonSets_dl; split <;> omega
      have hdm9 : f0_reckonSets_dl (f0_collectFree_ct sn fev rov z) dl ≤ 22528 := by unfold f0_reckonSets_dl; split <;> omega
      refine gz_aload_n C 0 dX0_fill_33 rfl ?_
      refine gz_aload_n C 1 dX0_fill_34 rfl ?_
      refine gz_aload_n C 2 dX0_fill_35 rfl ?_
      refine gz_iload_n C 3 dX0_fill_36 rfl ?_
      refine gz_callV (wr := []) (n := 3) (ws2 := (wC xo nt es ro ad cI cJ cZ ln fz sx mo sn bw tkv opv shv ldv wyv bdv (f0_collectFree_ct sn fev rov z) dA dA (f0_followFrozen_sta tkv opv shv wyv bdv rov z) (f0_followFrozen_stc tkv opv shv wyv bdv rov z) (f0_collectFree_fev sn fev rov z) dl dnv rov)) (st2 := []) (cells2 := 0) (slots2 := 0) (ci := 1) C (kX0_collectFree l D xo nt es ro ad cI cJ cZ ln fz sx mo sn bw tkv opv shv ldv wyv bdv ct dA (f0_followFrozen_sta tkv opv shv wyv bdv rov z) (f0_followFrozen_stc tkv opv shv wyv bdv rov z) fev dl dnv rov z (by first | assumption | omega) (by first | assumption | omega) (fun k hk => by have := (hri.1 k hk).2; omega)) (WB_V wk_176 wk_178 ws_1 wk_3 wk_179) (by decide +kernel) ⟨⟨rfl, rfl⟩, Nat.le_of_ble_eq_true rfl, Nat.le_of_ble_eq_true rfl⟩ [0, 1, 2, 3, 4, 5, 6, 7, 8, 9, 10, 11] [] [0, 1, 2] rfl rfl rfl (by decide) rfl 8 rfl rfl rfl rfl (Nat.le_of_ble_eq_true rfl) dX0_fill_37 ⟨Nat.zero_le _, Nat.zero_le _⟩ rfl rfl rfl ?_
      refine gz_aload_n C 0 dX0_fill_40 rfl ?_
      refine gz_aload_n C 1 dX0_fill_41 rfl ?_
      refine gz_callVX (wr := []) (n := 1) (g := fun dA_3 : Nat => (wC xo nt es ro ad cI cJ cZ ln fz sx mo sn bw tkv opv shv ldv wyv bdv (f0_collectFree_ct sn fev rov z) dA_3 dA_3 (f0_followFrozen_sta tkv opv shv wyv bdv rov z) (f0_followFrozen_stc tkv opv shv wyv bdv rov z) (f0_collectFree_fev sn fev rov z) (f0_reckonSets_dl (f0_collectFree_ct sn fev rov z) dl) (f0_reckonSets_dnv tkv opv shv wyv bdv (f0_collectFree_ct sn fev rov z) (f0_followFrozen_sta tkv opv shv wyv bdv rov z) (f0_followFrozen_stc tkv opv shv wyv bdv rov z) (f0_collectFree_fev sn fev rov z) dl dnv) rov)) (st2 := []) (cells2 := (0 + (if dl < 2 ^ (f0_collectFree_ct sn fev rov z) * (f0_collectFree_ct sn fev rov z) then 1 else 0))) (slots2 := (0 + (if dl < 2 ^ (f0_collectFree_ct sn fev rov z) * (f0_collectFree_ct sn fev rov z) then 2 ^ (f0_collectFree_ct sn fev rov z) * (f0_collectFree_ct sn fev rov z) else 0))) (ci := 1) C (kX0_reckonSets l D xo nt es ro ad cI cJ cZ ln fz sx mo sn bw tkv opv shv ldv wyv bdv (f0_collectFree_ct sn fev rov z) dA (f0_followFrozen_sta tkv opv shv wyv bdv rov z) (f0_followFrozen_stc tkv opv shv wyv bdv rov z) (f0_collectFree_fev sn fev rov z) dl dnv rov (by omega) (fun k hk => by have := (hB9 k hk).2; omega) hsa9 (by first | assumption | omega)) (WB_V wk_183 wk_185 ws_2 wk_3 wk_186) (by decide +kernel) ⟨⟨rfl, rfl⟩, Nat.le_of_ble_eq_true rfl, Nat.le_of_ble_eq_true rfl⟩ [0, 1, 2, 3, 4, 5, 6, 7, 8, 9, 10, 11] [] [0, 1, 2] rfl rfl rfl (by decide) (fun _ => rfl) 8 rfl rfl rfl rfl (Nat.le_of_ble_eq_true rfl) dX0_fill_42 ⟨(by show 0 + (if dl < 2 ^ (f0_collectFree_ct sn fev rov z) * (f0_collectFree_ct sn fev rov z) then 1 else 0) ≤ (if (sn - z) ≤ 11 then (if (f0_followFrozen_stc tkv opv shv wyv bdv rov z) = 1000000000000000 then 0 else (if dl < 2 ^ (f0_collectFree_ct sn fev rov z) * (f0_collectFree_ct sn fev rov z) then 1 else 0)) else 0); simp only [if_pos h_1, if_neg g_2]; exact Nat.le_of_eq (Nat.zero_add _)), (by show 0 + (if dl < 2 ^ (f0_collectFree_ct sn fev rov z) * (f0_collectFree_ct sn fev rov z) then 2 ^ (f0_collectFree_ct sn fev rov z) * (f0_collectFree_ct sn fev rov z) else 0) ≤ (if (sn - z) ≤ 11 then (if (f0_followFrozen_stc tkv opv shv wyv bdv rov z) = 1000000000000000 then 0 else (if dl < 2 ^ (f0_collectFree_ct sn fev rov z) * (f0_collectFree_ct sn fev rov z) then 2 ^ (f0_collectFree_ct sn fev rov z) * (f0_collectFree_ct sn fev rov z) else 0)) else 0); simp only [if_pos h_1, if_neg g_2]; exact Nat.le_of_eq (Nat.zero_add _))⟩ rfl rfl rfl (fun dA_3 => ?_)
      refine gz_aload_n C 0 dX0_fill_45 rfl ?_
      refine gz_aload_n C 1 dX0_fill_46 rfl ?_
      refine gz_iconst (v := nI 1) C dX0_fill_47 (by decide) ?_
      refine gz_aload_n C 0 dX0_fill_48 rfl ?_
      refine gz_get (ci := 1) C iwX0 8 rfl rfl 1 (by decide) wk_64 rfl rfl dX0_fill_49 ?_
      refine gz_ishl (v := nI (2 ^ (f0_collectFree_ct sn fev rov z))) C dX0_fill_52 (bz_shl (by omega)) ?_
      refine gz_iconst (v := nI 1) C dX0_fill_53 (by decide) ?_
      refine gz_isub (v := nI ((2 ^ (f0_collectFree_ct sn fev rov z)) - 1)) C dX0_fill_54 (pk_sub (by first | omega | exact Nat.one_le_two_pow)) ?_
      refine gz_iconst (v := nI 0) C dX0_fill_55 (by decide) ?_
      refine gz_callV (wr := []) (n := 3) (ws2 := (wC xo nt es ro ad cI cJ cZ ln fz sx mo sn bw tkv opv shv ldv wyv bdv (f0_collectFree_ct sn fev rov z) dA_3 dA_3 (f0_followFrozen_sta tkv opv shv wyv bdv rov z) (f0_followFrozen_stc tkv opv shv wyv bdv rov z) (f0_collectFree_fev sn fev rov z) (f0_reckonSets_dl (f0_collectFree_ct sn fev rov z) dl) (f0_reckonSets_dnv tkv opv shv wyv bdv (f0_collectFree_ct sn fev rov z) (f0_followFrozen_sta tkv opv shv wyv bdv rov z) (f0_followFrozen_stc tkv opv shv wyv bdv rov z) (f0_collectFree_fev sn fev rov z) dl dnv) rov)) (st2 := [.long (f0_earliest tkv opv shv wyv bdv (f0_collectFree_ct sn fev rov z) (f0_followFrozen_sta tkv opv shv wyv bdv rov z) (f0_followFrozen_stc tkv opv shv wyv bdv rov z) (f0_collectFree_fev sn fev rov z) (f0_reckonSets_dnv tkv opv shv wyv bdv (f0_collectFree_ct sn fev rov z) (f0_followFrozen_sta tkv opv shv wyv bdv rov z) (f0_followFrozen_stc tkv opv shv wyv bdv rov z) (f0_collectFree_fev sn fev rov z) dl dnv) ((2 ^ (f0_collectFree_ct sn fev rov z)) - 1) 0)]) (cells2 := (0 + (if dl < 2 ^ (f0_collectFree_ct sn fev rov z) * (f0_collectFree_ct sn fev rov z) then 1 else 0))) (slots2 := (0 + (if dl < 2 ^ (f0_collectFree_ct sn fev rov z) * (f0_collectFree_ct sn fev rov z) then 2 ^ (f0_collectFree_ct sn fev rov z) * (f0_collectFree_ct sn fev rov z) else 0))) (ci := 1) C (kX0_earliest l D xo nt es ro ad cI cJ cZ ln fz sx mo sn bw tkv opv shv ldv wyv bdv (f0_collectFree_ct sn fev rov z) dA_3 (f0_followFrozen_sta tkv opv shv wyv bdv rov z) (f0_followFrozen_stc tkv opv shv wyv bdv rov z) (f0_collectFree_fev sn fev rov z) (f0_reckonSets_dl (f0_collectFree_ct sn fev rov z) dl) (f0_reckonSets_dnv tkv opv shv wyv bdv (f0_collectFree_ct sn fev rov z) (f0_followFrozen_sta tkv opv shv wyv bdv rov z) (f0_followFrozen_stc tkv opv shv wyv bdv rov z) (f0_collectFree_fev sn fev rov z) dl dnv) rov ((2 ^ (f0_collectFree_ct sn fev rov z)) - 1) 0 (by omega) (fun k hk => by have := (hB9 k hk).2; omega) hsa9 hdl9 hdm9 (by have := bz_pow1 (f0_collectFree_ct sn fev rov z); omega) (by first | assumption | omega)) (WB_V wk_190 wk_192 ws_3 wk_3 wk_193) (by decide +kernel) ⟨⟨rfl, rfl⟩, Nat.le_of_ble_eq_true rfl, Nat.le_of_ble_eq_true rfl⟩ [0, 1, 2, 3, 4, 5, 6, 7, 8, 9, 10, 11] [] [0, 1, 2] rfl rfl rfl (by decide) rfl 8 rfl rfl rfl rfl (Nat.le_of_ble_eq_true rfl) dX0_fill_56 ⟨(by show 0 + (if dl < 2 ^ (f0_collectFree_ct sn fev rov z) * (f0_collectFree_ct sn fev rov z) then 1 else 0) ≤ (if (sn - z) ≤ 11 then (if (f0_followFrozen_stc tkv opv shv wyv bdv rov z) = 1000000000000000 then 0 else (if dl < 2 ^ (f0_collectFree_ct sn fev rov z) * (f0_collectFree_ct sn fev rov z) then 1 else 0)) else 0); simp only [if_pos h_1, if_neg g_2]; exact Nat.le_of_eq (Nat.zero_add _)), (by show 0 + (if dl < 2 ^ (f0_collectFree_ct sn fev rov z) * (f0_collectFree_ct sn fev rov z) then 2 ^ (f0_collectFree_ct sn fev rov z) * (f0_collectFree_ct sn fev rov z) else 0) ≤ (if (sn - z) ≤ 11 then (if (f0_followFrozen_stc tkv opv shv wyv bdv rov z) = 1000000000000000 then 0 else (if dl < 2 ^ (f0_collectFree_ct sn fev rov z) * (f0_collectFree_ct sn fev rov z) then 2 ^ (f0_collectFree_ct sn fev rov z) * (f0_collectFree_ct sn fev rov z) else 0)) else 0); simp only [if_pos h_1, if_neg g_2]; exact Nat.le_of_eq (Nat.zero_add _))⟩ rfl rfl rfl ?_
      refine gz_lstore (lv2 := [(4, .long (f0_earliest tkv opv shv wyv bdv (f0_collectFree_ct sn fev rov z) (f0_followFrozen_sta tkv opv shv wyv bdv rov z) (f0_followFrozen_stc tkv opv shv wyv bdv rov z) (f0_collectFree_fev sn fev rov z) (f0_reckonSets_dnv tkv opv shv wyv bdv (f0_collectFree_ct sn fev rov z) (f0_followFrozen_sta tkv opv shv wyv bdv rov z) (f0_followFrozen_stc tkv opv shv wyv bdv rov z) (f0_collectFree_fev sn fev rov z) dl dnv) ((2 ^ (f0_collectFree_ct sn fev rov z)) - 1) 0)), (0, .ref es), (1, .ref nt), (2, .ref ro), (3, .int (nI z))]) C dX0_fill_59 (by decide) rfl ?_
      refine gz_lload C 0 dX0_fill_61 rfl ?_
      refine gz_ldc2 (v := 1000000000000000) C wk_175 dX0_fill_63 ?_
      refine gz_lcmp_ne C 72 dX0_fill_66 dX0_fill_67 (by decide) (fun h_4 => ?_) (fun h_4 => ?_)
      · have g_4 : ¬ ((f0_earliest tkv opv shv wyv bdv (f0_collectFree_ct sn fev rov z) (f0_followFrozen_sta tkv opv shv wyv bdv rov z) (f0_followFrozen_stc tkv opv shv wyv bdv rov z) (f0_collectFree_fev sn fev rov z) (f0_reckonSets_dnv tkv opv shv wyv bdv (f0_collectFree_ct sn fev rov z) (f0_followFrozen_sta tkv opv shv wyv bdv rov z) (f0_followFrozen_stc tkv opv shv wyv bdv rov z) (f0_collectFree_fev sn fev rov z) dl dnv) ((2 ^ (f0_collectFree_ct sn fev rov z)) - 1) 0) = 1000000000000000) := h_4
        refine gz_aload_n C 1 dX0_fill_72 rfl ?_
        refine gz_aload_n C 2 dX0_fill_73 rfl ?_
        refine gz_aload_n C 3 dX0_fill_74 rfl ?_
        refine gz_iload_n C 4 dX0_fill_75 rfl ?_
        refine gz_lload C 0 dX0_fill_76 rfl ?_
        refine gz_callV (wr := []) (n := 4) (ws2 := (wC xo nt es ro ad cI cJ cZ ln fz sx mo sn bw tkv opv shv ldv wyv bdv (f0_collectFree_ct sn fev rov z) dA_3 dA_3 (f0_followFrozen_sta tkv opv shv wyv bdv rov z) (f0_followFrozen_stc tkv opv shv wyv bdv rov z) (f0_collectFree_fev sn fev rov z) (f0_reckonSets_dl (f0_collectFree_ct sn fev rov z) dl) (f0_reckonSets_dnv tkv opv shv wyv bdv (f0_collectFree_ct sn fev rov z) (f0_followFrozen_sta tkv opv shv wyv bdv rov z) (f0_followFrozen_stc tkv opv shv wyv bdv rov z) (f0_collectFree_fev sn fev rov z) dl dnv) (f0_readBack_rov tkv opv shv wyv bdv (f0_collectFree_ct sn fev rov z) (f0_collectFree_fev sn fev rov z) (f0_reckonSets_dnv tkv opv shv wyv bdv (f0_collectFree_ct sn fev rov z) (f0_followFrozen_sta tkv opv shv wyv bdv rov z) (f0_followFrozen_stc tkv opv shv wyv bdv rov z) (f0_collectFree_fev sn fev rov z) dl dnv) rov z (f0_earliest tkv opv shv wyv bdv (f0_collectFree_ct sn fev rov z) (f0_followFrozen_sta tkv opv shv wyv bdv rov z) (f0_followFrozen_stc tkv opv shv wyv bdv rov z) (f0_collectFree_fev sn fev rov z) (f0_reckonSets_dnv tkv opv shv wyv bdv (f0_collectFree_ct sn fev rov z) (f0_followFrozen_sta tkv opv shv wyv bdv rov z) (f0_followFrozen_stc tkv opv shv wyv bdv rov z) (f0_collectFree_fev sn fev rov z) dl dnv) ((2 ^ (f0_collectFree_ct sn fev rov z)) - 1) 0)))) (st2 := []) (cells2 := (0 + (if dl < 2 ^ (f0_collectFree_ct sn fev rov z) * (f0_collectFree_ct sn fev rov z) then 1 else 0))) (slots2 := (0 + (if dl < 2 ^ (f0_collectFree_ct sn fev rov z) * (f0_collectFree_ct sn fev rov z) then 2 ^ (f0_collectFree_ct sn fev rov z) * (f0_collectFree_ct sn fev rov z) else 0))) (ci := 1) C (kX0_readBack l D xo nt es ro ad cI cJ cZ ln fz sx mo sn bw tkv opv shv ldv wyv bdv (f0_collectFree_ct sn fev rov z) dA_3 (f0_followFrozen_sta tkv opv shv wyv bdv rov z) (f0_followFrozen_stc tkv opv shv wyv bdv rov z) (f0_collectFree_fev sn fev rov z) (f0_reckonSets_dl (f0_collectFree_ct sn fev rov z) dl) (f0_reckonSets_dnv tkv opv shv wyv bdv (f0_collectFree_ct sn fev rov z) (f0_followFrozen_sta tkv opv shv wyv bdv rov z) (f0_followFrozen_stc tkv opv shv wyv bdv rov z) (f0_collectFree_fev sn fev rov z) dl dnv) rov z (f0_earliest tkv opv shv wyv bdv (f0_collectFree_ct sn fev rov z) (f0_followFrozen_sta tkv opv shv wyv bdv rov z) (f0_followFrozen_stc tkv opv shv wyv bdv rov z) (f0_collectFree_fev sn fev rov z) (f0_reckonSets_dnv tkv opv shv wyv bdv (f0_collectFree_ct sn fev rov z) (f0_followFrozen_sta tkv opv shv wyv bdv rov z) (f0_followFrozen_stc tkv opv shv wyv bdv rov z) (f0_collectFree_fev sn fev rov z) dl dnv) ((2 ^ (f0_collectFree_ct sn fev rov z)) - 1) 0) (by omega) (fun k hk => by have := (hB9 k hk).2; omega) hsa9 hdl9 hdm9 (by first | assumption | omega)) (WB_V wk_197 wk_199 ws_4 wk_3 wk_200) (by decide +kernel) ⟨⟨rfl, rfl⟩, Nat.le_of_ble_eq_true rfl, Nat.le_of_ble_eq_true rfl⟩ [0, 1, 2, 3, 4, 5, 6, 7, 8, 9, 10, 11] [] [0, 1, 2] rfl rfl rfl (by decide) rfl 8 rfl rfl rfl rfl (Nat.le_of_ble_eq_true rfl) dX0_fill_78 ⟨(by show 0 + (if dl < 2 ^ (f0_collectFree_ct sn fev rov z) * (f0_collectFree_ct sn fev rov z) then 1 else 0) ≤ (if (sn - z) ≤ 11 then (if (f0_followFrozen_stc tkv opv shv wyv bdv rov z) = 1000000000000000 then 0 else (if dl < 2 ^ (f0_collectFree_ct sn fev rov z) * (f0_collectFree_ct sn fev rov z) then 1 else 0)) else 0); simp only [if_pos h_1, if_neg g_2]; exact Nat.le_of_eq (Nat.zero_add _)), (by show 0 + (if dl < 2 ^ (f0_collectFree_ct sn fev rov z) * (f0_collectFree_ct sn fev rov z) then 2 ^ (f0_collectFree_ct sn fev rov z) * (f0_collectFree_ct sn fev rov z) else 0) ≤ (if (sn - z) ≤ 11 then (if (f0_followFrozen_stc tkv opv shv wyv bdv rov z) = 1000000000000000 then 0 else (if dl < 2 ^ (f0_collectFree_ct sn fev rov z) * (f0_collectFree_ct sn fev rov z) then 2 ^ (f0_collectFree_ct sn fev rov z) * (f0_collectFree_ct sn fev rov z) else 0)) else 0); simp only [if_pos h_1, if_neg g_2]; exact Nat.le_of_eq (Nat.zero_add _))⟩ rfl rfl rfl ?_
        refine gz_iconst (v := nI 1) C dX0_fill_81 (by decide) ?_
        refine gz_sw (v := .int (nI 1)) (w := .int (bI true)) (by rw [show nI 1 = bI true from (by first | rfl | decide | ((repeat' split) <;> rfl))]) ?_
        exact gz_zretX C hr hk (bI_nar _) (by first | rfl | (simp only [f0_fill, f0_fill_ct, f0_fill_sta, f0_fill_stc, f0_fill_fev, f0_fill_dl, f0_fill_dnv, f0_fill_rov, if_pos h_1, if_neg g_2, if_neg g_4]) | (simp only [f0_fill, f0_fill_ct, f0_fill_sta, f0_fill_stc, f0_fill_fev, f0_fill_dl, f0_fill_dnv, f0_fill_rov, if_pos h_1, if_neg g_2, if_neg g_4]; rfl)) dA_3 (by first | rfl | (simp only [f0_fill, f0_fill_ct, f0_fill_sta, f0_fill_stc, f0_fill_fev, f0_fill_dl, f0_fill_dnv, f0_fill_rov, if_pos h_1, if_neg g_2, if_neg g_4]) | (simp only [f0_fill, f0_fill_ct, f0_fill_sta, f0_fill_stc, f0_fill_fev, f0_fill_dl, f0_fill_dnv, f0_fill_rov, if_pos h_1, if_neg g_2, if_neg g_4]; rfl)) (by show 0 + (if dl < 2 ^ (f0_collectFree_ct sn fev rov z) * (f0_collectFree_ct sn fev rov z) then 1 else 0) ≤ (if (sn - z) ≤ 11 then (if (f0_followFrozen_stc tkv opv shv wyv bdv rov z) = 1000000000000000 then 0 else (if dl < 2 ^ (f0_collectFree_ct sn fev rov z) * (f0_collectFree_ct sn fev rov z) then 1 else 0)) else 0); simp only [if_pos h_1, if_neg g_2]; exact Nat.le_of_eq (Nat.zero_add _)) (by show 0 + (if dl < 2 ^ (f0_collectFree_ct sn fev rov z) * (f0_collectFree_ct sn fev rov z) then 2 ^ (f0_collectFree_ct sn fev rov z) * (f0_collectFree_ct sn fev rov z) else 0) ≤ (if (sn - z) ≤ 11 then (if (f0_followFrozen_stc tkv opv shv wyv bdv rov z) = 1000000000000000 then 0 else (if dl < 2 ^ (f0_collectFree_ct sn fev rov z) * (f0_collectFree_ct sn fev rov z) then 2 ^ (f0_collectFree_ct sn fev rov z) * (f0_collectFree_ct sn fev rov z) else 0)) else 0); simp only [if_pos h_1, if_neg g_2]; exact Nat.le_of_eq (Nat.zero_add _)) dX0_fill_82
      · skip
        refine gz_iconst (v := nI 0) C dX0_fill_70 (by decide) ?_
        refine gz_sw (v := .int (nI 0)) (w := .int (bI false)) (by rw [show nI 0 = bI false from (by first | rfl | decide | ((repeat' split) <;> rfl))]) ?_
        exact gz_zretX C hr hk (bI_nar _) (by first | rfl | (simp only [f0_fill, f0_fill_ct, f0_fill_sta, f0_fill_stc, f0_fill_fev, f0_fill_dl, f0_fill_dnv, f0_fill_rov, if_pos h_1, if_neg g_2, if_pos h_4]) | (simp only [f0_fill, f0_fill_ct, f0_fill_sta, f0_fill_stc, f0_fill_fev, f0_fill_dl, f0_fill_dnv, f0_fill_rov, if_pos h_1, if_neg g_2, if_pos h_4]; rfl)) dA_3 (by first | rfl | (simp only [f0_fill, f0_fill_ct, f0_fill_sta, f0_fill_stc, f0_fill_fev, f0_fill_dl, f0_fill_dnv, f0_fill_rov, if_pos h_1, if_neg g_2, if_pos h_4]) | (simp only [f0_fill, f0_fill_ct, f0_fill_sta, f0_fill_stc, f0_fill_fev, f0_fill_dl, f0_fill_dnv, f0_fill_rov, if_pos h_1, if_neg g_2, if_pos h_4]; rfl)) (by show 0 + (if dl < 2 ^ (f0_collectFree_ct sn fev rov z) * (f0_collectFree_ct sn fev rov z) then 1 else 0) ≤ (if (sn - z) ≤ 11 then (if (f0_followFrozen_stc tkv opv shv wyv bdv rov z) = 1000000000000000 then 0 else (if dl < 2 ^ (f0_collectFree_ct sn fev rov z) * (f0_collectFree_ct sn fev rov z) then 1 else 0)) else 0); simp only [if_pos h_1, if_neg g_2]; exact Nat.le_of_eq (Nat.zero_add _)) (by show 0 + (if dl < 2 ^ (f0_collectFree_ct sn fev rov z) * (f0_collectFree_ct sn fev rov z) then 2 ^ (f0_collectFree_ct sn fev rov z) * (f0_collectFree_ct sn fev rov z) else 0) ≤ (if (sn - z) ≤ 11 then (if (f0_followFrozen_stc tkv opv shv wyv bdv rov z) = 1000000000000000 then 0 else (if dl < 2 ^ (f0_collectFree_ct sn fev rov z) * (f0_collectFree_ct sn fev rov z) then 2 ^ (f0_collectFree_ct sn fev rov z) * (f0_collectFree_ct sn fev rov z) else 0)) else 0); simp only [if_pos h_1, if_neg g_2]; exact Nat.le_of_eq (Nat.zero_add _)) dX0_fill_71
    · skip
      refine gz_iconst (v := nI 0) C dX0_fill_31 (by decide) ?_
      refine gz_sw (v := .int (nI 0)) (w := .int (bI false)) (by rw [show nI 0 = bI false from (by first | rfl | decide | ((repeat' split) <;> rfl))]) ?_
      exact gz_zretX C hr hk (bI_nar _) (by first | rfl | (simp only [f0_fill, f0_fill_ct, f0_fill_sta, f0_fill_stc, f0_fill_fev, f0_fill_dl, f0_fill_dnv, f0_fill_rov, if_pos h_1, if_pos h_2]) | (simp only [f0_fill, f0_fill_ct, f0_fill_sta, f0_fill_stc, f0_fill_fev, f0_fill_dl, f0_fill_dnv, f0_fill_rov, if_pos h_1, if_pos h_2]; rfl)) dA (by first | rfl | (simp only [f0_fill, f0_fill_ct, f0_fill_sta, f0_fill_stc, f0_fill_fev, f0_fill_dl, f0_fill_dnv, f0_fill_rov, if_pos h_1, if_pos h_2]) | (simp only [f0_fill, f0_fill_ct, f0_fill_sta, f0_fill_stc, f0_fill_fev, f0_fill_dl, f0_fill_dnv, f0_fill_rov, if_pos h_1, if_pos h_2]; rfl)) (Nat.zero_le _) (Nat.zero_le _) dX0_fill_32
  · have g_1 : ¬ ((sn - z) ≤ 11) := (Nat.not_le.mpr h_1)
    refine gz_iconst (v := nI 0) C dX0_fill_11 (by decide) ?_
    refine gz_sw (v := .int (nI 0)) (w := .int (bI false)) (by rw [show nI 0 = bI false from (by first | rfl | decide | ((repeat' split) <;> rfl))]) ?_
    exact gz_zretX C hr hk (bI_nar _) (by first | rfl | (simp only [f0_fill, f0_fill_ct, f0_fill_sta, f0_fill_stc, f0_fill_fev, f0_fill_dl, f0_fill_dnv, f0_fill_rov, if_neg g_1]) | (simp only [f0_fill, f0_fill_ct, f0_fill_sta, f0_fill_stc, f0_fill_fev, f0_fill_dl, f0_fill_dnv, f0_fill_rov, if_neg g_1]; rfl)) dA (by first | rfl | (simp only [f0_fill, f0_fill_ct, f0_fill_sta, f0_fill_stc, f0_fill_fev, f0_fill_dl, f0_fill_dnv, f0_fill_rov, if_neg g_1]) | (simp only [f0_fill, f0_fill_ct, f0_fill_sta, f0_fill_stc, f0_fill_fev, f0_fill_dl, f0_fill_dnv, f0_fill_rov, if_neg g_1]; rfl)) (Nat.zero_le _) (Nat.zero_le _) dX0_fill_12

