theorem q2_swap {rov : Nat → Nat} {i j : Nat} : f2_swap_rov rov i j = f3_turn_rov rov i j := rfl
theorem q2_swap_le {rov : Nat → Nat} {B n i j : Nat} (h : ∀ k, k < n → rov k ≤ B) (hi : i < n) (hj : j < n) : ∀ k, k < n → f2_swap_rov rov i j k ≤ B := q3_turn_le h hi hj

def f2_swapIfLess (tkv : Nat → Int64) (opv : Nat → Int64) (shv : Nat → Int64) (wyv : Nat → Int64) (bdv : Nat → Bool) (rov : Nat → Nat) (i : Nat) (j : Nat) (cs : Int64) (rl : Nat) : Bool := (if cs ≤ (f1_cost tkv opv shv wyv bdv (f2_swap_rov rov i j) rl) then false else true)
def f2_swapIfLess_rov (tkv : Nat → Int64) (opv : Nat → Int64) (shv : Nat → Int64) (wyv : Nat → Int64) (bdv : Nat → Bool) (rov : Nat → Nat) (i : Nat) (j : Nat) (cs : Int64) (rl : Nat) : Nat → Nat := (if cs ≤ (f1_cost tkv opv shv wyv bdv (f2_swap_rov rov i j) rl) then f2_swap_rov (f2_swap_rov rov i j) i j else f2_swap_rov rov i j)
set_option maxRecDepth 100000 in
set_option maxHeartbeats 4000000 in
theorem kX2_swapIfLess (l : Launch) (D : va_G) (xo : Nat) (nt : Nat) (es : Nat) (ro : Nat) (ad : Nat → Nat) (cI : ClassId) (cJ : ClassId) (cZ : ClassId) (ln : Int32) (fz : Nat) (sx : Bool) (mo : Int32) (sn : Nat) (bw : Int32) (tkv : Nat → Int64) (opv : Nat → Int64) (shv : Nat → Int64) (ldv : Nat → Int32) (wyv : Nat → Int64) (bdv : Nat → Bool) (ct : Nat) (dA : Nat) (sta : Nat) (stc : Int64) (fev : Nat → Nat) (dl : Nat) (dnv : Nat → Int64) (rov : Nat → Nat) (i : Nat) (j : Nat) (cs : Int64) (rl : Nat) (hln : ln = nI rl) (hr20 : rl ≤ 20) (hro : ∀ k, k < rl → rov k ≤ 20) (hi : i < rl) (hj : j < rl) : gz_M l yX2_swapIfLess cX2_swapIfLess 5 (some .boolean) ({ frames := 3, cells := 0, slots := 0, locals := 76 } : Room) D [(cI, .int), (cJ, .long), (cZ, .boolean)] [.ref xo, .int (nI i), .int (nI j), .long cs] (wC xo nt es ro ad cI cJ cZ ln fz sx mo sn bw tkv opv shv ldv wyv bdv ct dA dA sta stc fev dl dnv rov) (some (.int (bI (f2_swapIfLess tkv opv shv wyv bdv rov i j cs rl)))) (wC xo nt es ro ad cI cJ cZ ln fz sx mo sn bw tkv opv shv ldv wyv bdv ct dA dA sta stc fev dl dnv (f2_swapIfLess_rov tkv opv shv wyv bdv rov i j cs rl)) 0 0 := by
  refine gz_met l (by decide) (Nat.le_of_ble_eq_true rfl) [(0, .ref xo), (1, .int (nI i)), (2, .int (nI j)), (3, .long cs)] rfl ?_
  intro sz p e s m args below meth c C hr hk hnm
  have C : gz_C p s m args c cX2_swapIfLess 5 RX2 D [(cI, .int), (cJ, .long), (cZ, .boolean)] (va_A (wC xo nt es ro ad cI cJ cZ ln fz sx mo sn bw tkv opv shv ldv wyv bdv ct dA dA sta stc fev dl dnv rov) sz) := C
  refine gz_aload_n C 0 dX2_swapIfLess_0 rfl ?_
  refine gz_iload_n C 1 dX2_swapIfLess_1 rfl ?_
  refine gz_iload_n C 2 dX2_swapIfLess_2 rfl ?_
  refine gz_callV (wr := []) (n := 2) (ws2 := (wC xo nt es ro ad cI cJ cZ ln fz sx mo sn bw tkv opv shv ldv wyv bdv ct dA dA sta stc fev dl dnv (f2_swap_rov rov i j))) (st2 := []) (cells2 := 0) (slots2 := 0) (ci := 3) C (kX2_swap l D xo nt es ro ad cI cJ cZ ln fz sx mo sn bw tkv opv shv ldv wyv bdv ct dA sta stc fev dl dnv rov i j (by first | assumption | omega) (by first | assumption | omega)) (WB_V wk_223 wk_225 ws_9 wk_1 wk_226) (by decide +kernel) ⟨⟨rfl, rfl⟩, Nat.le_of_ble_eq_true rfl, Nat.le_of_ble_eq_true rfl⟩ [0, 1, 2, 3, 4, 5, 6, 7, 8, 9, 10, 11] [] [0, 1, 2] rfl rfl rfl (by decide) rfl 0 rfl rfl rfl rfl (Nat.le_of_ble_eq_true rfl) dX2_swapIfLess_3 ⟨Nat.zero_le _, Nat.zero_le _⟩ rfl rfl rfl ?_
  refine gz_aload_n C 0 dX2_swapIfLess_6 rfl ?_
  refine gz_get (ci := 3) C iwX2 0 rfl rfl 0 (by decide) wk_79 rfl rfl dX2_swapIfLess_7 ?_
  refine gz_aload_n C 0 dX2_swapIfLess_10 rfl ?_
  refine gz_get (ci := 3) C iwX2 0 rfl rfl 2 (by decide) wk_81 rfl rfl dX2_swapIfLess_11 ?_
  refine gz_aload_n C 0 dX2_swapIfLess_14 rfl ?_
  refine gz_get (ci := 3) C iwX2 0 rfl rfl 3 (by decide) wk_82 rfl rfl dX2_swapIfLess_15 ?_
  refine gz_sw (v := .int ln) (w := .int (nI rl)) (by rw [hln]) ?_
  refine gz_callV (wr := []) (n := 2) (ws2 := (wC xo nt es ro ad cI cJ cZ ln fz sx mo sn bw tkv opv shv ldv wyv bdv ct dA dA sta stc fev dl dnv (f2_swap_rov rov i j))) (st2 := [.long (f1_cost tkv opv shv wyv bdv (f2_swap_rov rov i j) rl)]) (cells2 := 0) (slots2 := 0) (ci := 2) C (kX1_cost l D xo nt es ro ad cI cJ cZ ln fz sx mo sn bw tkv opv shv ldv wyv bdv ct dA sta stc fev dl dnv (f2_swap_rov rov i j) rl (by first | assumption | omega) (q2_swap_le hro hi hj)) (WB_V wk_218 wk_219 wk_220 wk_2 wk_221) (by decide +kernel) ⟨⟨rfl, rfl⟩, Nat.le_of_ble_eq_true rfl, Nat.le_of_ble_eq_true rfl⟩ [0, 1, 2, 3, 4, 5, 6, 7, 8, 9, 10, 11] [] [0, 1, 2] rfl rfl rfl (by decide) rfl 1 rfl rfl rfl rfl (Nat.le_of_ble_eq_true rfl) dX2_swapIfLess_18 ⟨Nat.zero_le _, Nat.zero_le _⟩ rfl rfl rfl ?_
  refine gz_lload_n C 3 dX2_swapIfLess_21 rfl ?_
  refine gz_lcmp_ge C 28 dX2_swapIfLess_22 dX2_swapIfLess_23 (by decide) (fun h_1 => ?_) (fun h_1 => ?_)
  · skip
    refine gz_aload_n C 0 dX2_swapIfLess_28 rfl ?_
    refine gz_iload_n C 1 dX2_swapIfLess_29 rfl ?_
    refine gz_iload_n C 2 dX2_swapIfLess_30 rfl ?_
    refine gz_callV (wr := []) (n := 2) (ws2 := (wC xo nt es ro ad cI cJ cZ ln fz sx mo sn bw tkv opv shv ldv wyv bdv ct dA dA sta stc fev dl dnv (f2_swap_rov (f2_swap_rov rov i j) i j))) (st2 := []) (cells2 := 0) (slots2 := 0) (ci := 3) C (kX2_swap l D xo nt es ro ad cI cJ cZ ln fz sx mo sn bw tkv opv shv ldv wyv bdv ct dA sta stc fev dl dnv (f2_swap_rov rov i j) i j (by first | assumption | omega) (by first | assumption | omega)) (WB_V wk_223 wk_225 ws_9 wk_1 wk_226) (by decide +kernel) ⟨⟨rfl, rfl⟩, Nat.le_of_ble_eq_true rfl, Nat.le_of_ble_eq_true rfl⟩ [0, 1, 2, 3, 4, 5, 6, 7, 8, 9, 10, 11] [] [0, 1, 2] rfl rfl rfl (by decide) rfl 0 rfl rfl rfl rfl (Nat.le_of_ble_eq_true rfl) dX2_swapIfLess_31 ⟨Nat.zero_le _, Nat.zero_le _⟩ rfl rfl rfl ?_
    refine gz_iconst (v := nI 0) C dX2_swapIfLess_34 (by decide) ?_
    refine gz_sw (v := .int (nI 0)) (w := .int (bI false)) (by rw [show nI 0 = bI false from (by first | rfl | decide | ((repeat' split) <;> rfl))]) ?_
    exact gz_zret C hr hk (bI_nar _) (by first | rfl | (simp only [f2_swapIfLess, f2_swapIfLess_rov, if_pos h_1]) | (simp only [f2_swapIfLess, f2_swapIfLess_rov, if_pos h_1]; rfl)) (by first | rfl | (simp only [f2_swapIfLess, f2_swapIfLess_rov, if_pos h_1]) | (simp only [f2_swapIfLess, f2_swapIfLess_rov, if_pos h_1]; rfl)) (Nat.le_refl _) (Nat.le_refl _) dX2_swapIfLess_35
  · have g_1 : ¬ (cs ≤ (f1_cost tkv opv shv wyv bdv (f2_swap_rov rov i j) rl)) := h_1
    refine gz_iconst (v := nI 1) C dX2_swapIfLess_26 (by decide) ?_
    refine gz_sw (v := .int (nI 1)) (w := .int (bI true)) (by rw [show nI 1 = bI true from (by first | rfl | decide | ((repeat' split) <;> rfl))]) ?_
    exact gz_zret C hr hk (bI_nar _) (by first | rfl | (simp only [f2_swapIfLess, f2_swapIfLess_rov, if_neg g_1]) | (simp only [f2_swapIfLess, f2_swapIfLess_rov, if_neg g_1]; rfl)) (by first | rfl | (simp only [f2_swapIfLess, f2_swapIfLess_rov, if_neg g_1]) | (simp only [f2_swapIfLess, f2_swapIfLess_rov, if_neg g_1]; rfl)) (Nat.le_refl _) (Nat.le_refl _) dX2_swapIfLess_27

def f2_insert_i1  : Nat → Nat → (Nat → Nat) → Nat × (Nat → Nat)
  | 0, k, rov => (k, rov)
  | n + 1, k, rov => f2_insert_i1  n (k - 1) (va_up rov k (rov (k - 1)))
set_option maxRecDepth 100000 in
set_option maxHeartbeats 4000000 in
theorem lX2_insert_i1 {p : Program} {l : Launch} {e : Env} {R : Room} {s : State} {m : MethodId} {args : Array Value} {below : List Frame} {meth : Method} {c : Code} {cells slots : Nat} {Q : State → Prop} {A : Nat → Prop} {D : va_G} (xo : Nat) (nt : Nat) (es : Nat) (ro : Nat) (ad : Nat → Nat) (cI : ClassId) (cJ : ClassId) (cZ : ClassId) (ln : Int32) (fz : Nat) (sx : Bool) (mo : Int32) (sn : Nat) (bw : Int32) (tkv : Nat → Int64) (opv : Nat → Int64) (shv : Nat → Int64) (ldv : Nat → Int32) (wyv : Nat → Int64) (bdv : Nat → Bool) (ct : Nat) (dA : Nat) (sta : Nat) (stc : Int64) (fev : Nat → Nat) (dl : Nat) (dnv : Nat → Int64) (x : Nat) (co : Nat)  (C : gz_C p s m args c cX2_insert 9 RX2 D [(cI, .int), (cJ, .long), (cZ, .boolean)] A) : ∀ (n : Nat) (k : Nat) (rov : Nat → Nat), (k = fz + n ∧ k ≤ 19) → ((((f2_insert_i1  n k rov).1) = fz + 0 ∧ ((f2_insert_i1  n k rov).1) ≤ 19) → GZ p l e R s m args below meth c 9 D A cells slots Q (wC xo nt es ro ad cI cJ cZ ln fz sx mo sn bw tkv opv shv ldv wyv bdv ct dA dA sta stc fev dl dnv ((f2_insert_i1  n k rov).2)) [(0, .ref xo), (1, .int (nI x)), (2, .int (nI co)), (3, .int (nI ((f2_insert_i1  n k rov).1)))] [] 30) → GZ p l e R s m args below meth c 9 D A cells slots Q (wC xo nt es ro ad cI cJ cZ ln fz sx mo sn bw tkv opv shv ldv wyv bdv ct dA dA sta stc fev dl dnv rov) [(0, .ref xo), (1, .int (nI x)), (2, .int (nI co)), (3, .int (nI k))] [] 2 := by
  intro n
  induction n with
  | zero =>
    intro k rov hme  hx
    refine gz_iload_n C 3 dX2_insert_2 rfl ?_
    refine gz_aload_n C 0 dX2_insert_3 rfl ?_
    refine gz_get (ci := 3) C iwX2 0 rfl rfl 4 (by decide) wk_83 rfl rfl dX2_insert_4 ?_
    refine gz_ncmp_le C 30 (by omega) (by omega) dX2_insert_7 (by decide) (fun h_1 => ?_) (fun h_1 => ?_)
    · skip
      exact gz_lv [0, 1, 2, 3] rfl (hx hme )
    · have g_1 : ¬ (k ≤ fz) := (Nat.not_le.mpr h_1)
      exfalso; omega
  | succ n ih =>
    intro k rov hme  hx
    refine gz_iload_n C 3 dX2_insert_2 rfl ?_
    refine gz_aload_n C 0 dX2_insert_3 rfl ?_
    refine gz_get (ci := 3) C iwX2 0 rfl rfl 4 (by decide) wk_83 rfl rfl dX2_insert_4 ?_
    refine gz_ncmp_le C 30 (by omega) (by omega) dX2_insert_7 (by decide) (fun h_1 => ?_) (fun h_1 => ?_)
    · skip
      exfalso; omega
    · have g_1 : ¬ (k ≤ fz) := (Nat.not_le.mpr h_1)
      refine gz_aload_n C 0 dX2_insert_10 rfl ?_
      refine gz_get (ci := 3) C iwX2 0 rfl rfl 2 (by decide) wk_81 rfl rfl dX2_insert_11 ?_
      refine gz_iload_n C 3 dX2_insert_14 rfl ?_
      refine gz_aload_n C 0 dX2_insert_15 rfl ?_
      refine gz_get (ci := 3) C iwX2 0 rfl rfl 2 (by decide) wk_81 rfl rfl dX2_insert_16 ?_
      refine gz_iload_n C 3 dX2_insert_19 rfl ?_
      refine gz_iconst (v := nI 1) C dX2_insert_20 (by decide) ?_
      refine gz_isub (v := nI (k - 1)) C dX2_insert_21 (pk_sub (by first | omega | exact Nat.one_le_two_pow)) ?_
      refine gz_iald C 11 0 rfl rfl (by omega) (by decide) dX2_insert_22 ?_
      refine gz_iast (ws2 := (wC xo nt es ro ad cI cJ cZ ln fz sx mo sn bw tkv opv shv ldv wyv bdv ct dA dA sta stc fev dl dnv (va_up rov k (rov (k - 1))))) C 11 0 rfl rfl (by omega) (by decide) rfl dX2_insert_23 ?_
      refine gz_iinc (v := nI (k - 1)) (lv2 := [(3, .int (nI (k - 1))), (0, .ref xo), (1, .int (nI x)), (2, .int (nI co))]) (k := 3) C dX2_insert_24 rfl (sb_m1 (by omega)) (by decide) rfl ?_
      refine gz_goto C 2 dX2_insert_27 (by decide) ?_
      refine gz_lv [1, 2, 3, 0] rfl ?_
      simp only [f2_insert_i1, if_neg g_1] at hx
      exact ih (k - 1) (va_up rov k (rov (k - 1))) (by omega)  hx

theorem q2_i1 : ∀ (n k : Nat) (rov : Nat → Nat), (f2_insert_i1 n k rov).2 = (f3_putIn_lp n k rov).2 := by
  intro n
  induction n with
  | zero => intro k rov; rfl
  | succ n ih => intro k rov; exact ih _ _
theorem q2_put {co fz x : Nat} {rov : Nat → Nat} : va_up (f2_insert_i1 (co - fz) co rov).2 fz x = f3_putIn_rov co rov fz x := by
  unfold f3_putIn_rov
  rw [q2_i1]

def f2_insert_i2 (tkv : Nat → Int64) (opv : Nat → Int64) (shv : Nat → Int64) (wyv : Nat → Int64) (bdv : Nat → Bool) (co : Nat) : Nat → Nat → Int64 → Nat → (Nat → Nat) → Nat × Int64 × Nat × (Nat → Nat)
  | 0, pl, lst, k, rov => (pl, lst, k, rov)
  | n + 1, pl, lst, k, rov => f2_insert_i2 tkv opv shv wyv bdv co n ((if lst ≤ (f1_cost tkv opv shv wyv bdv (f2_swap_rov rov k (k + 1)) (co + 1)) then pl else k + 1)) ((if lst ≤ (f1_cost tkv opv shv wyv bdv (f2_swap_rov rov k (k + 1)) (co + 1)) then lst else f1_cost tkv opv shv wyv bdv (f2_swap_rov rov k (k + 1)) (co + 1))) (k + 1) (f2_swap_rov rov k (k + 1))
set_option maxRecDepth 100000 in
set_option maxHeartbeats 4000000 in
theorem lX2_insert_i2 {p : Program} {l : Launch} {e : Env} {R : Room} {s : State} {m : MethodId} {args : Array Value} {below : List Frame} {meth : Method} {c : Code} {cells slots : Nat} {Q : State → Prop} {A : Nat → Prop} {D : va_G} (xo : Nat) (nt : Nat) (es : Nat) (ro : Nat) (ad : Nat → Nat) (cI : ClassId) (cJ : ClassId) (cZ : ClassId) (ln : Int32) (fz : Nat) (sx : Bool) (mo : Int32) (sn : Nat) (bw : Int32) (tkv : Nat → Int64) (opv : Nat → Int64) (shv : Nat → Int64) (ldv : Nat → Int32) (wyv : Nat → Int64) (bdv : Nat → Bool) (ct : Nat) (dA : Nat) (sta : Nat) (stc : Int64) (fev : Nat → Nat) (dl : Nat) (dnv : Nat → Int64) (x : Nat) (co : Nat) (hco : co ≤ 19) (hR : 3 ≤ R.frames ∧ 76 ≤ R.locals) (hce : cells ≤ R.cells ∧ slots ≤ R.slots) (C : gz_C p s m args c cX2_insert 9 RX2 D [(cI, .int), (cJ, .long), (cZ, .boolean)] A) : ∀ (n : Nat) (pl : Nat) (lst : Int64) (k : Nat) (rov : Nat → Nat), (k + n = co) → (pl ≤ k) → (∀ j, j < co + 1 → rov j ≤ 20) → ((((f2_insert_i2 tkv opv shv wyv bdv co n pl lst k rov).2.2.1) + 0 = co) → (((f2_insert_i2 tkv opv shv wyv bdv co n pl lst k rov).1) ≤ ((f2_insert_i2 tkv opv shv wyv bdv co n pl lst k rov).2.2.1)) → (∀ j, j < co + 1 → ((f2_insert_i2 tkv opv shv wyv bdv co n pl lst k rov).2.2.2) j ≤ 20) → GZ p l e R s m args below meth c 9 D A cells slots Q (wC xo nt es ro ad cI cJ cZ ln fz sx mo sn bw tkv opv shv ldv wyv bdv ct dA dA sta stc fev dl dnv ((f2_insert_i2 tkv opv shv wyv bdv co n pl lst k rov).2.2.2)) [(0, .ref xo), (1, .int (nI x)), (2, .int (nI co)), (3, .int (nI ((f2_insert_i2 tkv opv shv wyv bdv co n pl lst k rov).1))), (4, .long ((f2_insert_i2 tkv opv shv wyv bdv co n pl lst k rov).2.1)), (6, .int (nI ((f2_insert_i2 tkv opv shv wyv bdv co n pl lst k rov).2.2.1)))] [] 122) → GZ p l e R s m args below meth c 9 D A cells slots Q (wC xo nt es ro ad cI cJ cZ ln fz sx mo sn bw tkv opv shv ldv wyv bdv ct dA dA sta stc fev dl dnv rov) [(0, .ref xo), (1, .int (nI x)), (2, .int (nI co)), (3, .int (nI pl)), (4, .long lst), (6, .int (nI k))] [] 67 := by
  intro n
  induction n with
  | zero =>
    intro pl lst k rov hme hpl hro hx
    refine gz_iload C 5 dX2_insert_67 rfl ?_
    refine gz_iload_n C 2 dX2_insert_69 rfl ?_
    refine gz_ncmp_ge C 122 (by omega) (by omega) dX2_insert_70 (by decide) (fun h_1 => ?_) (fun h_1 => ?_)
    · skip
      exact gz_lv [0, 1, 2, 3, 4, 5] rfl (hx hme hpl hro)
    · have g_1 : ¬ (co ≤ k) := (Nat.not_le.mpr h_1)
      exfalso; omega
  | succ n ih =>
    intro pl lst k rov hme hpl hro hx
    refine gz_iload C 5 dX2_insert_67 rfl ?_
    refine gz_iload_n C 2 dX2_insert_69 rfl ?_
    refine gz_ncmp_ge C 122 (by omega) (by omega) dX2_insert_70 (by decide) (fun h_1 => ?_) (fun h_1 => ?_)
    · skip
      exfalso; omega
    · have g_1 : ¬ (co ≤ k) := (Nat.not_le.mpr h_1)
      refine gz_aload_n C 0 dX2_insert_73 rfl ?_
      refine gz_iload C 5 dX2_insert_74 rfl ?_
      refine gz_iload C 5 dX2_insert_76 rfl ?_
      refine gz_iconst (v := nI 1) C dX2_insert_78 (by decide) ?_
      refine gz_iadd (v := nI (k + 1)) C dX2_insert_79 (nI_add _ _) ?_
      refine gz_callV (wr := []) (n := 2) (ws2 := (wC xo nt es ro ad cI cJ cZ ln fz sx mo sn bw tkv opv shv ldv wyv bdv ct dA dA sta stc fev dl dnv (f2_swap_rov rov k (k + 1)))) (st2 := []) (cells2 := cells) (slots2 := slots) (ci := 3) C (kX2_swap l D xo nt es ro ad cI cJ cZ ln fz sx mo sn bw tkv opv shv ldv wyv bdv ct dA sta stc fev dl dnv rov k (k + 1) (by first | assumption | omega) (by first | assumption | omega)) (WB_V wk_223 wk_225 ws_9 wk_1 wk_226) (by decide +kernel) ⟨⟨rfl, rfl⟩, Nat.le_trans (by decide) hR.1, Nat.le_trans (by decide) hR.2⟩ [0, 1, 2, 3, 4, 5, 6, 7, 8, 9, 10, 11] [] [0, 1, 2] rfl rfl rfl (by decide) rfl 0 rfl rfl rfl rfl (Nat.le_of_ble_eq_true rfl) dX2_insert_80 hce rfl rfl rfl ?_
      refine gz_aload_n C 0 dX2_insert_83 rfl ?_
      refine gz_get (ci := 3) C iwX2 0 rfl rfl 0 (by decide) wk_79 rfl rfl dX2_insert_84 ?_
      refine gz_aload_n C 0 dX2_insert_87 rfl ?_
      refine gz_get (ci := 3) C iwX2 0 rfl rfl 2 (by decide) wk_81 rfl rfl dX2_insert_88 ?_
      refine gz_iload_n C 2 dX2_insert_91 rfl ?_
      refine gz_iconst (v := nI 1) C dX2_insert_92 (by decide) ?_
      refine gz_iadd (v := nI (co + 1)) C dX2_insert_93 (nI_add _ _) ?_
      refine gz_callV (wr := []) (n := 2) (ws2 := (wC xo nt es ro ad cI cJ cZ ln fz sx mo sn bw tkv opv shv ldv wyv bdv ct dA dA sta stc fev dl dnv (f2_swap_rov rov k (k + 1)))) (st2 := [.long (f1_cost tkv opv shv wyv bdv (f2_swap_rov rov k (k + 1)) (co + 1))]) (cells2 := cells) (slots2 := slots) (ci := 2) C (kX1_cost l D xo nt es ro ad cI cJ cZ ln fz sx mo sn bw tkv opv shv ldv wyv bdv ct dA sta stc fev dl dnv (f2_swap_rov rov k (k + 1)) (co + 1) (by first | assumption | omega) (q2_swap_le hro (by omega) (by omega))) (WB_V wk_218 wk_219 wk_220 wk_2 wk_221) (by decide +kernel) ⟨⟨rfl, rfl⟩, Nat.le_trans (by decide) hR.1, Nat.le_trans (by decide) hR.2⟩ [0, 1, 2, 3, 4, 5, 6, 7, 8, 9, 10, 11] [] [0, 1, 2] rfl rfl rfl (by decide) rfl 1 rfl rfl rfl rfl (Nat.le_of_ble_eq_true rfl) dX2_insert_94 hce rfl rfl rfl ?_
      refine gz_lstore (lv2 := [(7, .long (f1_cost tkv opv shv wyv bdv (f2_swap_rov rov k (k + 1)) (co + 1))), (0, .ref xo), (1, .int (nI x)), (2, .int (nI co)), (3, .int (nI pl)), (4, .long lst), (6, .int (nI k))]) C dX2_insert_97 (by decide) rfl ?_
      refine gz_lload C 0 dX2_insert_99 rfl ?_
      refine gz_lload C 5 dX2_insert_101 rfl ?_
      refine gz_J (ws2 := (wC xo nt es ro ad cI cJ cZ ln fz sx mo sn bw tkv opv shv ldv wyv bdv ct dA dA sta stc fev dl dnv (f2_swap_rov rov k (k + 1)))) (lv2 := [(7, .long (f1_cost tkv opv shv wyv bdv (f2_swap_rov rov k (k + 1)) (co + 1))), (0, .ref xo), (1, .int (nI x)), (2, .int (nI co)), (3, .int (nI ((if lst ≤ (f1_cost tkv opv shv wyv bdv (f2_swap_rov rov k (k + 1)) (co + 1)) then pl else k + 1)))), (4, .long ((if lst ≤ (f1_cost tkv opv shv wyv bdv (f2_swap_rov rov k (k + 1)) (co + 1)) then lst else f1_cost tkv opv shv wyv bdv (f2_swap_rov rov k (k + 1)) (co + 1)))), (6, .int (nI k))]) (st2 := []) (pc2 := 116) ?_ (fun J_2 => ?_)
      rotate_left
      · refine gz_lcmp_ge C 116 dX2_insert_103 dX2_insert_104 (by decide) (fun h_2 => ?_) (fun h_2 => ?_)
        · skip
          simp only [if_pos h_2] at J_2 ⊢
          exact gz_lv [0, 1, 2, 3, 4, 5, 6] rfl J_2
        · have g_2 : ¬ (lst ≤ (f1_cost tkv opv shv wyv bdv (f2_swap_rov rov k (k + 1)) (co + 1))) := h_2
          refine gz_lload C 0 dX2_insert_107 rfl ?_
          refine gz_lstore (lv2 := [(4, .long (f1_cost tkv opv shv wyv bdv (f2_swap_rov rov k (k + 1)) (co + 1))), (7, .long (f1_cost tkv opv shv wyv bdv (f2_swap_rov rov k (k + 1)) (co + 1))), (0, .ref xo), (1, .int (nI x)), (2, .int (nI co)), (3, .int (nI pl)), (6, .int (nI k))]) C dX2_insert_109 (by decide) rfl ?_
          refine gz_iload C 6 dX2_insert_111 rfl ?_
          refine gz_iconst (v := nI 1) C dX2_insert_113 (by decide) ?_
          refine gz_iadd (v := nI (k + 1)) C dX2_insert_114 (nI_add _ _) ?_
          refine gz_istore_n (lv2 := [(3, .int (nI (k + 1))), (4, .long (f1_cost tkv opv shv wyv bdv (f2_swap_rov rov k (k + 1)) (co + 1))), (7, .long (f1_cost tkv opv shv wyv bdv (f2_swap_rov rov k (k + 1)) (co + 1))), (0, .ref xo), (1, .int (nI x)), (2, .int (nI co)), (6, .int (nI k))]) C dX2_insert_115 (by decide) rfl ?_
          simp only [if_neg g_2] at J_2 ⊢
          exact gz_lv [2, 3, 4, 5, 0, 1, 6] rfl J_2
      refine gz_iinc (v := nI (k + 1)) (lv2 := [(6, .int (nI (k + 1))), (7, .long (f1_cost tkv opv shv wyv bdv (f2_swap_rov rov k (k + 1)) (co + 1))), (0, .ref xo), (1, .int (nI x)), (2, .int (nI co)), (3, .int (nI ((if lst ≤ (f1_cost tkv opv shv wyv bdv (f2_swap_rov rov k (k + 1)) (co + 1)) then pl else k + 1)))), (4, .long ((if lst ≤ (f1_cost tkv opv shv wyv bdv (f2_swap_rov rov k (k + 1)) (co + 1)) then lst else f1_cost tkv opv shv wyv bdv (f2_swap_rov rov k (k + 1)) (co + 1))))]) (k := 6) C dX2_insert_116 rfl (nI_add _ 1) (by decide) rfl ?_
      refine gz_goto C 67 dX2_insert_119 (by decide) ?_
      refine gz_lv [2, 3, 4, 5, 6, 0] rfl ?_
      simp only [f2_insert_i2, if_neg g_1] at hx
      exact ih ((if lst ≤ (f1_cost tkv opv shv wyv bdv (f2_swap_rov rov k (k + 1)) (co + 1)) then pl else k + 1)) ((if lst ≤ (f1_cost tkv opv shv wyv bdv (f2_swap_rov rov k (k + 1)) (co + 1)) then lst else f1_cost tkv opv shv wyv bdv (f2_swap_rov rov k (k + 1)) (co + 1))) (k + 1) (f2_swap_rov rov k (k + 1)) (by omega) (by first | omega | (split <;> omega)) (q2_swap_le hro (by omega) (by omega)) hx

def f2_insert_i3  : Nat → Nat → (Nat → Nat) → Nat × (Nat → Nat)
  | 0, k, rov => (k, rov)
  | n + 1, k, rov => f2_insert_i3  n (k - 1) (f2_swap_rov rov k (k - 1))
set_option maxRecDepth 100000 in
set_option maxHeartbeats 4000000 in
theorem lX2_insert_i3 {p : Program} {l : Launch} {e : Env} {R : Room} {s : State} {m : MethodId} {args : Array Value} {below : List Frame} {meth : Method} {c : Code} {cells slots : Nat} {Q : State → Prop} {A : Nat → Prop} {D : va_G} (xo : Nat) (nt : Nat) (es : Nat) (ro : Nat) (ad : Nat → Nat) (cI : ClassId) (cJ : ClassId) (cZ : ClassId) (ln : Int32) (fz : Nat) (sx : Bool) (mo : Int32) (sn : Nat) (bw : Int32) (tkv : Nat → Int64) (opv : Nat → Int64) (shv : Nat → Int64) (ldv : Nat → Int32) (wyv : Nat → Int64) (bdv : Nat → Bool) (ct : Nat) (dA : Nat) (sta : Nat) (stc : Int64) (fev : Nat → Nat) (dl : Nat) (dnv : Nat → Int64) (pl : Nat)  (hR : 1 ≤ R.frames ∧ 23 ≤ R.locals) (hce : cells ≤ R.cells ∧ slots ≤ R.slots) (C : gz_C p s m args c cX2_insert 9 RX2 D [(cI, .int), (cJ, .long), (cZ, .boolean)] A) : ∀ (n : Nat) (k : Nat) (rov : Nat → Nat), (k = pl + n ∧ k ≤ 19) → ((((f2_insert_i3  n k rov).1) = pl + 0 ∧ ((f2_insert_i3  n k rov).1) ≤ 19) → GZ p l e R s m args below meth c 9 D A cells slots Q (wC xo nt es ro ad cI cJ cZ ln fz sx mo sn bw tkv opv shv ldv wyv bdv ct dA dA sta stc fev dl dnv ((f2_insert_i3  n k rov).2)) [(0, .ref xo), (3, .int (nI pl)), (6, .int (nI ((f2_insert_i3  n k rov).1)))] [] 147) → GZ p l e R s m args below meth c 9 D A cells slots Q (wC xo nt es ro ad cI cJ cZ ln fz sx mo sn bw tkv opv shv ldv wyv bdv ct dA dA sta stc fev dl dnv rov) [(0, .ref xo), (3, .int (nI pl)), (6, .int (nI k))] [] 125 := by
  intro n
  induction n with
  | zero =>
    intro k rov hme  hx
    refine gz_iload C 2 dX2_insert_125 rfl ?_
    refine gz_iload_n C 1 dX2_insert_127 rfl ?_
    refine gz_ncmp_le C 147 (by omega) (by omega) dX2_insert_128 (by decide) (fun h_1 => ?_) (fun h_1 => ?_)
    · skip
      exact gz_lv [0, 1, 2] rfl (hx hme )
    · have g_1 : ¬ (k ≤ pl) := (Nat.not_le.mpr h_1)
      exfalso; omega
  | succ n ih =>
    intro k rov hme  hx
    refine gz_iload C 2 dX2_insert_125 rfl ?_
    refine gz_iload_n C 1 dX2_insert_127 rfl ?_
    refine gz_ncmp_le C 147 (by omega) (by omega) dX2_insert_128 (by decide) (fun h_1 => ?_) (fun h_1 => ?_)
    · skip
      exfalso; omega
    · have g_1 : ¬ (k ≤ pl) := (Nat.not_le.mpr h_1)
      refine gz_aload_n C 0 dX2_insert_131 rfl ?_
      refine gz_iload C 2 dX2_insert_132 rfl ?_
      refine gz_iload C 2 dX2_insert_134 rfl ?_
      refine gz_iconst (v := nI 1) C dX2_insert_136 (by decide) ?_
      refine gz_isub (v := nI (k - 1)) C dX2_insert_137 (pk_sub (by first | omega | exact Nat.one_le_two_pow)) ?_
      refine gz_callV (wr := []) (n := 2) (ws2 := (wC xo nt es ro ad cI cJ cZ ln fz sx mo sn bw tkv opv shv ldv wyv bdv ct dA dA sta stc fev dl dnv (f2_swap_rov rov k (k - 1)))) (st2 := []) (cells2 := cells) (slots2 := slots) (ci := 3) C (kX2_swap l D xo nt es ro ad cI cJ cZ ln fz sx mo sn bw tkv opv shv ldv wyv bdv ct dA sta stc fev dl dnv rov k (k - 1) (by first | assumption | omega) (by first | assumption | omega)) (WB_V wk_223 wk_225 ws_9 wk_1 wk_226) (by decide +kernel) ⟨⟨rfl, rfl⟩, Nat.le_trans (by decide) hR.1, Nat.le_trans (by decide) hR.2⟩ [0, 1, 2, 3, 4, 5, 6, 7, 8, 9, 10, 11] [] [0, 1, 2] rfl rfl rfl (by decide) rfl 0 rfl rfl rfl rfl (Nat.le_of_ble_eq_true rfl) dX2_insert_138 hce rfl rfl rfl ?_
      refine gz_iinc (v := nI (k - 1)) (lv2 := [(6, .int (nI (k - 1))), (0, .ref xo), (3, .int (nI pl))]) (k := 2) C dX2_insert_141 rfl (sb_m1 (by omega)) (by decide) rfl ?_
      refine gz_goto C 125 dX2_insert_144 (by decide) ?_
      refine gz_lv [1, 2, 0] rfl ?_
      simp only [f2_insert_i3, if_neg g_1] at hx
      exact ih (k - 1) (f2_swap_rov rov k (k - 1)) (by omega)  hx

def f2_insert (fz : Nat) (tkv : Nat → Int64) (opv : Nat → Int64) (shv : Nat → Int64) (wyv : Nat → Int64) (bdv : Nat → Bool) (rov : Nat → Nat) (x : Nat) (co : Nat) : Nat := (f2_insert_i2 tkv opv shv wyv bdv co (co - fz) fz (f1_cost tkv opv shv wyv bdv (va_up ((f2_insert_i1  (co - fz) co rov).2) fz x) (co + 1)) fz (va_up ((f2_insert_i1  (co - fz) co rov).2) fz x)).1
def f2_insert_rov (fz : Nat) (tkv : Nat → Int64) (opv : Nat → Int64) (shv : Nat → Int64) (wyv : Nat → Int64) (bdv : Nat → Bool) (rov : Nat → Nat) (x : Nat) (co : Nat) : Nat → Nat := (f2_insert_i3  (co - ((f2_insert_i2 tkv opv shv wyv bdv co (co - fz) fz (f1_cost tkv opv shv wyv bdv (va_up ((f2_insert_i1  (co - fz) co rov).2) fz x) (co + 1)) fz (va_up ((f2_insert_i1  (co - fz) co rov).2) fz x)).1)) co ((f2_insert_i2 tkv opv shv wyv bdv co (co - fz) fz (f1_cost tkv opv shv wyv bdv (va_up ((f2_insert_i1  (co - fz) co rov).2) fz x) (co + 1)) fz (va_up ((f2_insert_i1  (co - fz) co rov).2) fz x)).2.2.2)).2
set_option maxRecDepth 100000 in
set_option maxHeartbeats 4000000 in
theorem kX2_insert (l : Launch) (D : va_G) (xo : Nat) (nt : Nat) (es : Nat) (ro : Nat) (ad : Nat → Nat) (cI : ClassId) (cJ : ClassId) (cZ : ClassId) (ln : Int32) (fz : Nat) (sx : Bool) (mo : Int32) (sn : Nat) (bw : Int32) (tkv : Nat → Int64) (opv : Nat → Int64) (shv : Nat → Int64) (ldv : Nat → Int32) (wyv : Nat → Int64) (bdv : Nat → Bool) (ct : Nat) (dA : Nat) (sta : Nat) (stc : Int64) (fev : Nat → Nat) (dl : Nat) (dnv : Nat → Int64) (rov : Nat → Nat) (x : Nat) (co : Nat) (hco : co ≤ 19) (hfz : fz ≤ co) (hxx : x ≤ 20) (hro : ∀ k, k < co → rov k ≤ 20) : gz_M l yX2_insert cX2_insert 9 (some .int) ({ frames := 3, cells := 0, slots := 0, locals := 76 } : Room) D [(cI, .int), (cJ, .long), (cZ, .boolean)] [.ref xo, .int (nI x), .int (nI co)] (wC xo nt es ro ad cI cJ cZ ln fz sx mo sn bw tkv opv shv ldv wyv bdv ct dA dA sta stc fev dl dnv rov) (some (.int (nI (f2_insert fz tkv opv shv wyv bdv rov x co)))) (wC xo nt es ro ad cI cJ cZ ln fz sx mo sn bw tkv opv shv ldv wyv bdv ct dA dA sta stc fev dl dnv (f2_insert_rov fz tkv opv shv wyv bdv rov x co)) 0 0 := by
  refine gz_met l (by decide) (Nat.le_of_ble_eq_true rfl) [(0, .ref xo), (1, .int (nI x)), (2, .int (nI co))] rfl ?_
  intro sz p e s m args below meth c C hr hk hnm
  have C : gz_C p s m args c cX2_insert 9 RX2 D [(cI, .int), (cJ, .long), (cZ, .boolean)] (va_A (wC xo nt es ro ad cI cJ cZ ln fz sx mo sn bw tkv opv shv ldv wyv bdv ct dA dA sta stc fev dl dnv rov) sz) := C
  refine gz_iload_n C 2 dX2_insert_0 rfl ?_
  refine gz_istore_n (lv2 := [(3, .int (nI co)), (0, .ref xo), (1, .int (nI x)), (2, .int (nI co))]) C dX2_insert_1 (by decide) rfl ?_
  refine gz_lv (lv2 := [(0, .ref xo), (1, .int (nI x)), (2, .int (nI co)), (3, .int (nI co))]) [1, 2, 3, 0] rfl ?_
  refine lX2_insert_i1 xo nt es ro ad cI cJ cZ ln fz sx mo sn bw tkv opv shv ldv wyv bdv ct dA sta stc fev dl dnv x co  C (co - fz) co rov (by omega)  ?_
  intro zme_i1
  refine gz_aload_n C 0 dX2_insert_30 rfl ?_
  refine gz_get (ci := 3) C iwX2 0 rfl rfl 2 (by decide) wk_81 rfl rfl dX2_insert_31 ?_
  refine gz_aload_n C 0 dX2_insert_34 rfl ?_
  refine gz_get (ci := 3) C iwX2 0 rfl rfl 4 (by decide) wk_83 rfl rfl dX2_insert_35 ?_
  refine gz_iload_n C 1 dX2_insert_38 rfl ?_
  refine gz_iast (ws2 := (wC xo nt es ro ad cI cJ cZ ln fz sx mo sn bw tkv opv shv ldv wyv bdv ct dA dA sta stc fev dl dnv (va_up ((f2_insert_i1  (co - fz) co rov).2) fz x))) C 11 0 rfl rfl (by omega) (by decide) rfl dX2_insert_39 ?_
  have hro9 : ∀ k, k < co + 1 → va_up (f2_insert_i1 (co - fz) co rov).2 fz x k ≤ 20 := by rw [q2_put]; exact q3_putIn_le hfz hxx hro
  refine gz_aload_n C 0 dX2_insert_40 rfl ?_
  refine gz_get (ci := 3) C iwX2 0 rfl rfl 4 (by decide) wk_83 rfl rfl dX2_insert_41 ?_
  refine gz_istore_n (lv2 := [(3, .int (nI fz)), (0, .ref xo), (1, .int (nI x)), (2, .int (nI co))]) C dX2_insert_44 (by decide) rfl ?_
  refine gz_aload_n C 1 dX2_insert_45 rfl ?_
  refine gz_get (ci := 3) C iwX2 0 rfl rfl 0 (by decide) wk_79 rfl rfl dX2_insert_46 ?_
  refine gz_aload_n C 1 dX2_insert_49 rfl ?_
  refine gz_get (ci := 3) C iwX2 0 rfl rfl 2 (by decide) wk_81 rfl rfl dX2_insert_50 ?_
  refine gz_iload_n C 3 dX2_insert_53 rfl ?_
  refine gz_iconst (v := nI 1) C dX2_insert_54 (by decide) ?_
  refine gz_iadd (v := nI (co + 1)) C dX2_insert_55 (nI_add _ _) ?_
  refine gz_callV (wr := []) (n := 2) (ws2 := (wC xo nt es ro ad cI cJ cZ ln fz sx mo sn bw tkv opv shv ldv wyv bdv ct dA dA sta stc fev dl dnv (va_up ((f2_insert_i1  (co - fz) co rov).2) fz x))) (st2 := [.long (f1_cost tkv opv shv wyv bdv (va_up ((f2_insert_i1  (co - fz) co rov).2) fz x) (co + 1))]) (cells2 := 0) (slots2 := 0) (ci := 2) C (kX1_cost l D xo nt es ro ad cI cJ cZ ln fz sx mo sn bw tkv opv shv ldv wyv bdv ct dA sta stc fev dl dnv (va_up ((f2_insert_i1  (co - fz) co rov).2) fz x) (co + 1) (by first | assumption | omega) hro9) (WB_V wk_218 wk_219 wk_220 wk_2 wk_221) (by decide +kernel) ⟨⟨rfl, rfl⟩, Nat.le_of_ble_eq_true rfl, Nat.le_of_ble_eq_true rfl⟩ [0, 1, 2, 3, 4, 5, 6, 7, 8, 9, 10, 11] [] [0, 1, 2] rfl rfl rfl (by decide) rfl 1 rfl rfl rfl rfl (Nat.le_of_ble_eq_true rfl) dX2_insert_56 ⟨Nat.zero_le _, Nat.zero_le _⟩ rfl rfl rfl ?_
  refine gz_lstore (lv2 := [(4, .long (f1_cost tkv opv shv wyv bdv (va_up ((f2_insert_i1  (co - fz) co rov).2) fz x) (co + 1))), (3, .int (nI fz)), (0, .ref xo), (1, .int (nI x)), (2, .int (nI co))]) C dX2_insert_59 (by decide) rfl ?_
  refine gz_aload_n C 2 dX2_insert_61 rfl ?_
  refine gz_get (ci := 3) C iwX2 0 rfl rfl 4 (by decide) wk_83 rfl rfl dX2_insert_62 ?_
  refine gz_istore (lv2 := [(6, .int (nI fz)), (4, .long (f1_cost tkv opv shv wyv bdv (va_up ((f2_insert_i1  (co - fz) co rov).2) fz x) (co + 1))), (3, .int (nI fz)), (0, .ref xo), (1, .int (nI x)), (2, .int (nI co))]) C dX2_insert_65 (by decide) rfl ?_
  refine gz_lv (lv2 := [(0, .ref xo), (1, .int (nI x)), (2, .int (nI co)), (3, .int (nI fz)), (4, .long (f1_cost tkv opv shv wyv bdv (va_up ((f2_insert_i1  (co - fz) co rov).2) fz x) (co + 1))), (6, .int (nI fz))]) [3, 4, 5, 2, 1, 0] rfl ?_
  refine lX2_insert_i2 xo nt es ro ad cI cJ cZ ln fz sx mo sn bw tkv opv shv ldv wyv bdv ct dA sta stc fev dl dnv x co (by first | assumption | omega) ⟨Nat.le_of_ble_eq_true rfl, Nat.le_of_ble_eq_true rfl⟩ ⟨Nat.zero_le _, Nat.zero_le _⟩ C (co - fz) fz (f1_cost tkv opv shv wyv bdv (va_up ((f2_insert_i1  (co - fz) co rov).2) fz x) (co + 1)) fz (va_up ((f2_insert_i1  (co - fz) co rov).2) fz x) (by omega) (by omega) hro9 ?_
  intro zme_i2 zhpl_i2 zhro_i2
  refine gz_iload_n C 2 dX2_insert_122 rfl ?_
  refine gz_istore (lv2 := [(6, .int (nI co)), (0, .ref xo), (1, .int (nI x)), (2, .int (nI co)), (3, .int (nI ((f2_insert_i2 tkv opv shv wyv bdv co (co - fz) fz (f1_cost tkv opv shv wyv bdv (va_up ((f2_insert_i1  (co - fz) co rov).2) fz x) (co + 1)) fz (va_up ((f2_insert_i1  (co - fz) co rov).2) fz x)).1))), (4, .long ((f2_insert_i2 tkv opv shv wyv bdv co (co - fz) fz (f1_cost tkv opv shv wyv bdv (va_up ((f2_insert_i1  (co - fz) co rov).2) fz x) (co + 1)) fz (va_up ((f2_insert_i1  (co - fz) co rov).2) fz x)).2.1))]) C dX2_insert_123 (by decide) rfl ?_
  refine gz_lv (lv2 := [(0, .ref xo), (3, .int (nI ((f2_insert_i2 tkv opv shv wyv bdv co (co - fz) fz (f1_cost tkv opv shv wyv bdv (va_up ((f2_insert_i1  (co - fz) co rov).2) fz x) (co + 1)) fz (va_up ((f2_insert_i1  (co - fz) co rov).2) fz x)).1))), (6, .int (nI co))]) [1, 4, 0] rfl ?_
  refine lX2_insert_i3 xo nt es ro ad cI cJ cZ ln fz sx mo sn bw tkv opv shv ldv wyv bdv ct dA sta stc fev dl dnv ((f2_insert_i2 tkv opv shv wyv bdv co (co - fz) fz (f1_cost tkv opv shv wyv bdv (va_up ((f2_insert_i1  (co - fz) co rov).2) fz x) (co + 1)) fz (va_up ((f2_insert_i1  (co - fz) co rov).2) fz x)).1)  ⟨Nat.le_of_ble_eq_true rfl, Nat.le_of_ble_eq_true rfl⟩ ⟨Nat.zero_le _, Nat.zero_le _⟩ C (co - ((f2_insert_i2 tkv opv shv wyv bdv co (co - fz) fz (f1_cost tkv opv shv wyv bdv (va_up ((f2_insert_i1  (co - fz) co rov).2) fz x) (co + 1)) fz (va_up ((f2_insert_i1  (co - fz) co rov).2) fz x)).1)) co ((f2_insert_i2 tkv opv shv wyv bdv co (co - fz) fz (f1_cost tkv opv shv wyv bdv (va_up ((f2_insert_i1  (co - fz) co rov).2) fz x) (co + 1)) fz (va_up ((f2_insert_i1  (co - fz) co rov).2) fz x)).2.2.2) (by omega)  ?_
  intro zme_i3
  refine gz_iload_n C 1 dX2_insert_147 rfl ?_
  exact gz_iret C hr hk (by first | rfl | (simp only [f2_insert, f2_insert_rov]) | (simp only [f2_insert, f2_insert_rov]; rfl)) (by first | rfl | (simp only [f2_insert, f2_insert_rov]) | (simp only [f2_insert, f2_insert_rov]; rfl)) (Nat.le_refl _) (Nat.le_refl _) dX2_insert_148

