theorem q3_fetch_lp {rdv : Nat → Nat} : ∀ (n k : Nat) (rov : Nat → Nat) (j : Nat), (f3_fetch_lp rdv n k rov).2 j = if k ≤ j ∧ j < k + n then rdv j else rov j := by
  intro n
  induction n with
  | zero =>
    intro k rov j
    rw [if_neg (by omega)]; rfl
  | succ n ih =>
    intro k rov j
    show (f3_fetch_lp rdv n (k + 1) (va_up rov k (rdv k))).2 j = _
    rw [ih]
    by_cases h1 : k + 1 ≤ j ∧ j < k + 1 + n
    · rw [if_pos h1, if_pos (by omega)]
    · rw [if_neg h1]
      by_cases h2 : j = k
      · subst h2; rw [if_pos (by omega), va_up_self]
      · rw [if_neg (by omega), va_up_ne _ _ h2]
theorem q3_fetch {rn : Nat} {rdv rov : Nat → Nat} (j : Nat) : f3_fetch_rov rn rdv rov j = if j < rn then rdv j else rov j := by
  unfold f3_fetch_rov
  rw [q3_fetch_lp]
  by_cases h : j < rn
  · rw [if_pos (by omega), if_pos h]
  · rw [if_neg (by omega), if_neg h]
theorem q3_fetch_le {rn B : Nat} {rdv rov : Nat → Nat} (h : ∀ k, k < rn → rdv k ≤ B) : ∀ k, k < rn → f3_fetch_rov rn rdv rov k ≤ B := by
  intro k hk
  rw [q3_fetch, if_pos hk]
  exact h k hk

def f3_add_lp (rdv : Nat → Nat) (z : Nat) : Nat → Nat → Nat → Nat × Nat
  | 0, pl, k => (pl, k)
  | n + 1, pl, k => f3_add_lp rdv z n ((if (rdv k) = z then k else pl)) (k + 1)
set_option maxRecDepth 100000 in
set_option maxHeartbeats 4000000 in
theorem lX3_add_lp {p : Program} {l : Launch} {e : Env} {R : Room} {s : State} {m : MethodId} {args : Array Value} {below : List Frame} {meth : Method} {c : Code} {cells slots : Nat} {Q : State → Prop} {A : Nat → Prop} {D : va_G} (h : Nat) (ad : Nat → Nat) (cI : ClassId) (cJ : ClassId) (cZ : ClassId) (thr : Int32) (sn : Nat) (tkv : Nat → Int64) (opv : Nat → Int64) (shv : Nat → Int64) (ldv : Nat → Int32) (lim : Int32) (wyv : Nat → Int64) (bdv : Nat → Bool) (isr : Bool) (rn : Nat) (rdv : Nat → Nat) (fz : Nat) (icv : Nat → Nat) (exa : Bool) (fr : Nat) (fev : Nat → Nat) (eav : Nat → Int64) (rs : Nat) (rov : Nat → Nat) (z : Nat) (hrn : rn ≤ 20) (hrd : ∀ k, k < rn → rdv k ≤ 20) (hz : z ≤ 20) (C : gz_C p s m args c cX3_add 4 RX3 D [(cI, .int), (cJ, .long), (cZ, .boolean)] A) : ∀ (n : Nat) (pl : Nat) (k : Nat), (k + n = rn) → (pl = 0 ∨ pl < rn) → ((((f3_add_lp rdv z n pl k).2) + 0 = rn) → (((f3_add_lp rdv z n pl k).1) = 0 ∨ ((f3_add_lp rdv z n pl k).1) < rn) → GZ p l e R s m args below meth c 4 D A cells slots Q (wM h ad cI cJ cZ thr sn tkv opv shv ldv lim wyv bdv isr rn rdv fz icv exa fr fev eav rs rov) [(0, .ref h), (1, .int (nI z)), (2, .int (nI ((f3_add_lp rdv z n pl k).1))), (3, .int (nI ((f3_add_lp rdv z n pl k).2)))] [] 60) → GZ p l e R s m args below meth c 4 D A cells slots Q (wM h ad cI cJ cZ thr sn tkv opv shv ldv lim wyv bdv isr rn rdv fz icv exa fr fev eav rs rov) [(0, .ref h), (1, .int (nI z)), (2, .int (nI pl)), (3, .int (nI k))] [] 30 := by
  intro n
  induction n with
  | zero =>
    intro pl k hme hpp hx
    refine gz_iload_n C 3 dX3_add_30 rfl ?_
    refine gz_aload_n C 0 dX3_add_31 rfl ?_
    refine gz_get (ci := 4) C iwX3 0 rfl rfl 10 (by decide) wk_390 rfl rfl dX3_add_32 ?_
    refine gz_ncmp_ge C 60 (by omega) (by omega) dX3_add_35 (by decide) (fun h_1 => ?_) (fun h_1 => ?_)
    · skip
      exact gz_lv [0, 1, 2, 3] rfl (hx hme hpp)
    · have g_1 : ¬ (rn ≤ k) := (Nat.not_le.mpr h_1)
      exfalso; omega
  | succ n ih =>
    intro pl k hme hpp hx
    refine gz_iload_n C 3 dX3_add_30 rfl ?_
    refine gz_aload_n C 0 dX3_add_31 rfl ?_
    refine gz_get (ci := 4) C iwX3 0 rfl rfl 10 (by decide) wk_390 rfl rfl dX3_add_32 ?_
    refine gz_ncmp_ge C 60 (by omega) (by omega) dX3_add_35 (by decide) (fun h_1 => ?_) (fun h_1 => ?_)
    · skip
      exfalso; omega
    · have g_1 : ¬ (rn ≤ k) := (Nat.not_le.mpr h_1)
      have hq := hrd k (by omega)
      refine gz_aload_n C 0 dX3_add_38 rfl ?_
      refine gz_get (ci := 4) C iwX3 0 rfl rfl 11 (by decide) wk_391 rfl rfl dX3_add_39 ?_
      refine gz_iload_n C 3 dX3_add_42 rfl ?_
      refine gz_iald C 7 0 rfl rfl (by omega) (by decide) dX3_add_43 ?_
      refine gz_iload_n C 1 dX3_add_44 rfl ?_
      refine gz_J (ws2 := (wM h ad cI cJ cZ thr sn tkv opv shv ldv lim wyv bdv isr rn rdv fz icv exa fr fev eav rs rov)) (lv2 := [(0, .ref h), (1, .int (nI z)), (2, .int (nI pl)), (3, .int (nI k))]) (st2 := [.int (nI ((if (rdv k) = z then k else pl)))]) (pc2 := 53) ?_ (fun J_2 => ?_)
      rotate_left
      · refine gz_ncmp_ne C 52 (by omega) (by omega) dX3_add_45 (by decide) (fun h_2 => ?_) (fun h_2 => ?_)
        · have g_2 : ¬ ((rdv k) = z) := h_2
          refine gz_iload_n C 2 dX3_add_52 rfl ?_
          simp only [if_neg g_2] at J_2 ⊢
          exact gz_lv [0, 1, 2, 3] rfl J_2
        · skip
          refine gz_iload_n C 3 dX3_add_48 rfl ?_
          refine gz_goto C 53 dX3_add_49 (by decide) ?_
          simp only [if_pos h_2] at J_2 ⊢
          exact gz_lv [0, 1, 2, 3] rfl J_2
      refine gz_istore_n (lv2 := [(2, .int (nI ((if (rdv k) = z then k else pl)))), (0, .ref h), (1, .int (nI z)), (3, .int (nI k))]) C dX3_add_53 (by decide) rfl ?_
      refine gz_iinc (v := nI (k + 1)) (lv2 := [(3, .int (nI (k + 1))), (2, .int (nI ((if (rdv k) = z then k else pl)))), (0, .ref h), (1, .int (nI z))]) (k := 3) C dX3_add_54 rfl (nI_add _ 1) (by decide) rfl ?_
      refine gz_goto C 30 dX3_add_57 (by decide) ?_
      refine gz_lv [2, 3, 1, 0] rfl ?_
      simp only [f3_add_lp, if_neg g_1] at hx
      exact ih ((if (rdv k) = z then k else pl)) (k + 1) (by omega) (by first | omega | (split <;> omega)) hx

def f3_add (sn : Nat) (tkv : Nat → Int64) (opv : Nat → Int64) (shv : Nat → Int64) (wyv : Nat → Int64) (bdv : Nat → Bool) (isr : Bool) (rn : Nat) (rdv : Nat → Nat) (fz : Nat) (rov : Nat → Nat) (x : Int32) : Int32 := (if (f3_isStop sn x) = true then (if isr = true then (if fz ≤ ((f3_add_lp rdv (cl x) rn 0 0).1) then f3_insert tkv opv shv wyv bdv fz (rn - 1) (f3_takeOut_rov rn (f3_fetch_rov rn rdv rov) ((f3_add_lp rdv (cl x) rn 0 0).1)) (cl x) else (-13)) else (-13)) else (-11))
def f3_add_thr (sn : Nat) (isr : Bool) (rn : Nat) (rdv : Nat → Nat) (fz : Nat) (x : Int32) : Int32 := (if (f3_isStop sn x) = true then (if isr = true then (if fz ≤ ((f3_add_lp rdv (cl x) rn 0 0).1) then nI 0 else nI 0) else nI 0) else nI 0)
def f3_add_isr (sn : Nat) (isr : Bool) (rn : Nat) (rdv : Nat → Nat) (fz : Nat) (x : Int32) : Bool := (if (f3_isStop sn x) = true then (if isr = true then (if fz ≤ ((f3_add_lp rdv (cl x) rn 0 0).1) then f3_keep_isr else isr) else isr) else isr)
def f3_add_rn (sn : Nat) (isr : Bool) (rn : Nat) (rdv : Nat → Nat) (fz : Nat) (x : Int32) : Nat := (if (f3_isStop sn x) = true then (if isr = true then (if fz ≤ ((f3_add_lp rdv (cl x) rn 0 0).1) then f3_keep_rn (f3_insert_rs (rn - 1)) else rn) else rn) else rn)
def f3_add_rdv (sn : Nat) (tkv : Nat → Int64) (opv : Nat → Int64) (shv : Nat → Int64) (wyv : Nat → Int64) (bdv : Nat → Bool) (isr : Bool) (rn : Nat) (rdv : Nat → Nat) (fz : Nat) (rov : Nat → Nat) (x : Int32) : Nat → Nat := (if (f3_isStop sn x) = true then (if isr = true then (if fz ≤ ((f3_add_lp rdv (cl x) rn 0 0).1) then f3_keep_rdv rdv (f3_insert_rs (rn - 1)) (f3_insert_rov tkv opv shv wyv bdv fz (rn - 1) (f3_takeOut_rov rn (f3_fetch_rov rn rdv rov) ((f3_add_lp rdv (cl x) rn 0 0).1)) (cl x)) else rdv) else rdv) else rdv)
def f3_add_exa (sn : Nat) (isr : Bool) (rn : Nat) (rdv : Nat → Nat) (fz : Nat) (exa : Bool) (x : Int32) : Bool := (if (f3_isStop sn x) = true then (if isr = true then (if fz ≤ ((f3_add_lp rdv (cl x) rn 0 0).1) then false else exa) else exa) else exa)
def f3_add_rs (sn : Nat) (isr : Bool) (rn : Nat) (rdv : Nat → Nat) (fz : Nat) (rs : Nat) (x : Int32) : Nat := (if (f3_isStop sn x) = true then (if isr = true then (if fz ≤ ((f3_add_lp rdv (cl x) rn 0 0).1) then f3_insert_rs (rn - 1) else rs) else rs) else rs)
def f3_add_rov (sn : Nat) (tkv : Nat → Int64) (opv : Nat → Int64) (shv : Nat → Int64) (wyv : Nat → Int64) (bdv : Nat → Bool) (isr : Bool) (rn : Nat) (rdv : Nat → Nat) (fz : Nat) (rov : Nat → Nat) (x : Int32) : Nat → Nat := (if (f3_isStop sn x) = true then (if isr = true then (if fz ≤ ((f3_add_lp rdv (cl x) rn 0 0).1) then f3_insert_rov tkv opv shv wyv bdv fz (rn - 1) (f3_takeOut_rov rn (f3_fetch_rov rn rdv rov) ((f3_add_lp rdv (cl x) rn 0 0).1)) (cl x) else rov) else rov) else rov)
set_option maxRecDepth 100000 in
set_option maxHeartbeats 4000000 in
theorem kX3_add (l : Launch) (D : va_G) (h : Nat) (ad : Nat → Nat) (cI : ClassId) (cJ : ClassId) (cZ : ClassId) (thr : Int32) (sn : Nat) (tkv : Nat → Int64) (opv : Nat → Int64) (shv : Nat → Int64) (ldv : Nat → Int32) (lim : Int32) (wyv : Nat → Int64) (bdv : Nat → Bool) (isr : Bool) (rn : Nat) (rdv : Nat → Nat) (fz : Nat) (icv : Nat → Nat) (exa : Bool) (fr : Nat) (fev : Nat → Nat) (eav : Nat → Int64) (rs : Nat) (rov : Nat → Nat) (x : Int32) (hsn : sn ≤ 20) (hrn : rn ≤ 20) (hrd : ∀ k, k < rn → rdv k ≤ 20) (hir : isr = true → rn = sn) (hfz : fz ≤ 20) : gz_M l yX3_add cX3_add 4 (some .int) ({ frames := 2, cells := 0, slots := 0, locals := 56 } : Room) D [(cI, .int), (cJ, .long), (cZ, .boolean)] [.ref h, .int x] (wM h ad cI cJ cZ thr sn tkv opv shv ldv lim wyv bdv isr rn rdv fz icv exa fr fev eav rs rov) (some (.int (f3_add sn tkv opv shv wyv bdv isr rn rdv fz rov x))) (wM h ad cI cJ cZ (f3_add_thr sn isr rn rdv fz x) sn tkv opv shv ldv lim wyv bdv (f3_add_isr sn isr rn rdv fz x) (f3_add_rn sn isr rn rdv fz x) (f3_add_rdv sn tkv opv shv wyv bdv isr rn rdv fz rov x) fz icv (f3_add_exa sn isr rn rdv fz exa x) fr fev eav (f3_add_rs sn isr rn rdv fz rs x) (f3_add_rov sn tkv opv shv wyv bdv isr rn rdv fz rov x)) 0 0 := by
  refine gz_met l (by decide) (Nat.le_of_ble_eq_true rfl) [(0, .ref h), (1, .int x)] rfl ?_
  intro sz p e s m args below meth c C hr hk hnm
  have C : gz_C p s m args c cX3_add 4 RX3 D [(cI, .int), (cJ, .long), (cZ, .boolean)] (va_A (wM h ad cI cJ cZ thr sn tkv opv shv ldv lim wyv bdv isr rn rdv fz icv exa fr fev eav rs rov) sz) := C
  refine gz_aload_n C 0 dX3_add_0 rfl ?_
  refine gz_iconst (v := nI 0) C dX3_add_1 (by decide) ?_
  refine gz_put (ci := 4) (ws2 := (wM h ad cI cJ cZ (nI 0) sn tkv opv shv ldv lim wyv bdv isr rn rdv fz icv exa fr fev eav rs rov)) C iwX3 0 rfl rfl 0 (by decide) wk_380 rfl tyX3 tyX3_ok nmX3 rfl rfl rfl rfl (Nat.le_of_ble_eq_true rfl) rfl dX3_add_2 ?_
  refine gz_aload_n C 0 dX3_add_5 rfl ?_
  refine gz_iload_n C 1 dX3_add_6 rfl ?_
  refine gz_callV (wr := []) (n := 1) (ws2 := (wM h ad cI cJ cZ (nI 0) sn tkv opv shv ldv lim wyv bdv isr rn rdv fz icv exa fr fev eav rs rov)) (st2 := [.int (bI (f3_isStop sn x))]) (cells2 := 0) (slots2 := 0) (ci := 4) C (kX3_isStop l D h ad cI cJ cZ (nI 0) sn tkv opv shv ldv lim wyv bdv isr rn rdv fz icv exa fr fev eav rs rov x (by first | assumption | omega)) (WB_V wk_459 wk_461 ws_17 wk_4 wk_462) (by decide +kernel) ⟨⟨rfl, rfl⟩, Nat.le_of_ble_eq_true rfl, Nat.le_of_ble_eq_true rfl⟩ [0, 1, 2, 3, 4, 5, 6, 7, 8, 9, 10, 11] [] [0, 1, 2] rfl rfl rfl (by decide) rfl 0 rfl rfl rfl rfl (Nat.le_of_ble_eq_true rfl) dX3_add_7 ⟨Nat.zero_le _, Nat.zero_le _⟩ rfl rfl rfl ?_
  refine gz_bif_ne C 16 dX3_add_10 (by decide) (fun h_1 => ?_) (fun h_1 => ?_)
  · skip
    obtain ⟨hx1, hx2, hx3⟩ := q3_stop h_1 hsn
    refine gz_lve (lv2 := [(0, .ref h), (1, .int (nI (cl x)))]) (by rw [← hx1]) ?_
    refine gz_aload_n C 0 dX3_add_16 rfl ?_
    refine gz_get (ci := 4) C iwX3 0 rfl rfl 9 (by decide) wk_389 rfl rfl dX3_add_17 ?_
    refine gz_bif_ne C 26 dX3_add_20 (by decide) (fun h_2 => ?_) (fun h_2 => ?_)
    · skip
      have hrs9 : rn = sn := hir h_2
      refine gz_iconst (v := nI 0) C dX3_add_26 (by decide) ?_
      refine gz_istore_n (lv2 := [(2, .int (nI 0)), (0, .ref h), (1, .int (nI (cl x)))]) C dX3_add_27 (by decide) rfl ?_
      refine gz_iconst (v := nI 0) C dX3_add_28 (by decide) ?_
      refine gz_istore_n (lv2 := [(3, .int (nI 0)), (2, .int (nI 0)), (0, .ref h), (1, .int (nI (cl x)))]) C dX3_add_29 (by decide) rfl ?_
      refine gz_lv (lv2 := [(0, .ref h), (1, .int (nI (cl x))), (2, .int (nI 0)), (3, .int (nI 0))]) [2, 3, 1, 0] rfl ?_
      refine lX3_add_lp h ad cI cJ cZ (nI 0) sn tkv opv shv ldv lim wyv bdv isr rn rdv fz icv exa fr fev eav rs rov (cl x) (by first | assumption | omega) (by first | assumption | omega) (by first | assumption | omega) C rn 0 0 (by omega) (by first | assumption | omega) ?_
      intro zme_lp zhpp_lp
      refine gz_iload_n C 2 dX3_add_60 rfl ?_
      refine gz_aload_n C 0 dX3_add_61 rfl ?_
      refine gz_get (ci := 4) C iwX3 0 rfl rfl 12 (by decide) wk_392 rfl rfl dX3_add_62 ?_
      refine gz_ncmp_ge C 71 (by omega) (by omega) dX3_add_65 (by decide) (fun h_3 => ?_) (fun h_3 => ?_)
      · skip
        refine gz_aload_n C 0 dX3_add_71 rfl ?_
        refine gz_callV (wr := []) (n := 0) (ws2 := (wM h ad cI cJ cZ (nI 0) sn tkv opv shv ldv lim wyv bdv isr rn rdv fz icv exa fr fev eav (f3_fetch_rs rn) (f3_fetch_rov rn rdv rov))) (st2 := []) (cells2 := 0) (slots2 := 0) (ci := 4) C (kX3_fetch l D h ad cI cJ cZ (nI 0) sn tkv opv shv ldv lim wyv bdv isr rn rdv fz icv exa fr fev eav rs rov (by first | assumption | omega)) (WB_V wk_551 wk_553 ws_32 wk_4 wk_554) (by decide +kernel) ⟨⟨rfl, rfl⟩, Nat.le_of_ble_eq_true rfl, Nat.le_of_ble_eq_true rfl⟩ [0, 1, 2, 3, 4, 5, 6, 7, 8, 9, 10, 11] [] [0, 1, 2] rfl rfl rfl (by decide) rfl 0 rfl rfl rfl rfl (Nat.le_of_ble_eq_true rfl) dX3_add_72 ⟨Nat.zero_le _, Nat.zero_le _⟩ rfl rfl rfl ?_
        refine gz_wse (ws2 := (wM h ad cI cJ cZ (nI 0) sn tkv opv shv ldv lim wyv bdv isr rn rdv fz icv exa fr fev eav rn (f3_fetch_rov rn rdv rov))) rfl ?_
        refine gz_aload_n C 0 dX3_add_75 rfl ?_
        refine gz_iload_n C 2 dX3_add_76 rfl ?_
        refine gz_callV (wr := []) (n := 1) (ws2 := (wM h ad cI cJ cZ (nI 0) sn tkv opv shv ldv lim wyv bdv isr rn rdv fz icv exa fr fev eav (f3_takeOut_rs rn) (f3_takeOut_rov rn (f3_fetch_rov rn rdv rov) ((f3_add_lp rdv (cl x) rn 0 0).1)))) (st2 := []) (cells2 := 0) (slots2 := 0) (ci := 4) C (kX3_takeOut l D h ad cI cJ cZ (nI 0) sn tkv opv shv ldv lim wyv bdv isr rn rdv fz icv exa fr fev eav rn (f3_fetch_rov rn rdv rov) ((f3_add_lp rdv (cl x) rn 0 0).1) (by first | assumption | omega) (by first | assumption | omega)) (WB_V wk_511 wk_513 ws_27 wk_4 wk_514) (by decide +kernel) ⟨⟨rfl, rfl⟩, Nat.le_of_ble_eq_true rfl, Nat.le_of_ble_eq_true rfl⟩ [0, 1, 2, 3, 4, 5, 6, 7, 8, 9, 10, 11] [] [0, 1, 2] rfl rfl rfl (by decide) rfl 0 rfl rfl rfl rfl (Nat.le_of_ble_eq_true rfl) dX3_add_77 ⟨Nat.zero_le _, Nat.zero_le _⟩ rfl rfl rfl ?_
        refine gz_wse (ws2 := (wM h ad cI cJ cZ (nI 0) sn tkv opv shv ldv lim wyv bdv isr rn rdv fz icv exa fr fev eav (rn - 1) (f3_takeOut_rov rn (f3_fetch_rov rn rdv rov) ((f3_add_lp rdv (cl x) rn 0 0).1)))) rfl ?_
        refine gz_aload_n C 0 dX3_add_80 rfl ?_
        refine gz_iload_n C 1 dX3_add_81 rfl ?_
        refine gz_callV (wr := []) (n := 1) (ws2 := (wM h ad cI cJ cZ (nI 0) sn tkv opv shv ldv lim wyv bdv isr rn rdv fz icv exa fr fev eav (f3_insert_rs (rn - 1)) (f3_insert_rov tkv opv shv wyv bdv fz (rn - 1) (f3_takeOut_rov rn (f3_fetch_rov rn rdv rov) ((f3_add_lp rdv (cl x) rn 0 0).1)) (cl x)))) (st2 := [.int (f3_insert tkv opv shv wyv bdv fz (rn - 1) (f3_takeOut_rov rn (f3_fetch_rov rn rdv rov) ((f3_add_lp rdv (cl x) rn 0 0).1)) (cl x))]) (cells2 := 0) (slots2 := 0) (ci := 4) C (kX3_insert l D h ad cI cJ cZ (nI 0) sn tkv opv shv ldv lim wyv bdv isr rn rdv fz icv exa fr fev eav (rn - 1) (f3_takeOut_rov rn (f3_fetch_rov rn rdv rov) ((f3_add_lp rdv (cl x) rn 0 0).1)) (cl x) (by first | assumption | omega) (by first | assumption | omega) (by first | assumption | omega) (q3_takeOut_le (by omega) (q3_fetch_le hrd))) (WB_V wk_498 wk_500 ws_24 wk_4 wk_501) (by decide +kernel) ⟨⟨rfl, rfl⟩, Nat.le_of_ble_eq_true rfl, Nat.le_of_ble_eq_true rfl⟩ [0, 1, 2, 3, 4, 5, 6, 7, 8, 9, 10, 11] [] [0, 1, 2] rfl rfl rfl (by decide) rfl 0 rfl rfl rfl rfl (Nat.le_of_ble_eq_true rfl) dX3_add_82 ⟨Nat.zero_le _, Nat.zero_le _⟩ rfl rfl rfl ?_
        refine gz_istore_n (lv2 := [(3, .int (f3_insert tkv opv shv wyv bdv fz (rn - 1) (f3_takeOut_rov rn (f3_fetch_rov rn rdv rov) ((f3_add_lp rdv (cl x) rn 0 0).1)) (cl x))), (0, .ref h), (1, .int (nI (cl x))), (2, .int (nI ((f3_add_lp rdv (cl x) rn 0 0).1)))]) C dX3_add_85 (by decide) rfl ?_
        refine gz_aload_n C 1 dX3_add_86 rfl ?_
        refine gz_callV (wr := []) (n := 0) (ws2 := (wM h ad cI cJ cZ (nI 0) sn tkv opv shv ldv lim wyv bdv f3_keep_isr (f3_keep_rn (f3_insert_rs (rn - 1))) (f3_keep_rdv rdv (f3_insert_rs (rn - 1)) (f3_insert_rov tkv opv shv wyv bdv fz (rn - 1) (f3_takeOut_rov rn (f3_fetch_rov rn rdv rov) ((f3_add_lp rdv (cl x) rn 0 0).1)) (cl x))) fz icv exa fr fev eav (f3_insert_rs (rn - 1)) (f3_insert_rov tkv opv shv wyv bdv fz (rn - 1) (f3_takeOut_rov rn (f3_fetch_rov rn rdv rov) ((f3_add_lp rdv (cl x) rn 0 0).1)) (cl x)))) (st2 := []) (cells2 := 0) (slots2 := 0) (ci := 4) C (kX3_keep l D h ad cI cJ cZ (nI 0) sn tkv opv shv ldv lim wyv bdv isr rn rdv fz icv exa fr fev eav (f3_insert_rs (rn - 1)) (f3_insert_rov tkv opv shv wyv bdv fz (rn - 1) (f3_takeOut_rov rn (f3_fetch_rov rn rdv rov) ((f3_add_lp rdv (cl x) rn 0 0).1)) (cl x)) (by show rn - 1 + 1 ≤ 20; omega)) (WB_V wk_527 wk_529 ws_31 wk_4 wk_530) (by decide +kernel) ⟨⟨rfl, rfl⟩, Nat.le_of_ble_eq_true rfl, Nat.le_of_ble_eq_true rfl⟩ [0, 1, 2, 3, 4, 5, 6, 7, 8, 9, 10, 11] [] [0, 1, 2] rfl rfl rfl (by decide) rfl 0 rfl rfl rfl rfl (Nat.le_of_ble_eq_true rfl) dX3_add_87 ⟨Nat.zero_le _, Nat.zero_le _⟩ rfl rfl rfl ?_
        refine gz_aload_n C 1 dX3_add_90 rfl ?_
        refine gz_iconst (v := nI 0) C dX3_add_91 (by decide) ?_
        refine gz_sw (v := .int (nI 0)) (w := .int (bI false)) (by rw [show nI 0 = bI false from (by first | rfl | decide | ((repeat' split) <;> rfl))]) ?_
        refine gz_put (ci := 4) (ws2 := (wM h ad cI cJ cZ (nI 0) sn tkv opv shv ldv lim wyv bdv f3_keep_isr (f3_keep_rn (f3_insert_rs (rn - 1))) (f3_keep_rdv rdv (f3_insert_rs (rn - 1)) (f3_insert_rov tkv opv shv wyv bdv fz (rn - 1) (f3_takeOut_rov rn (f3_fetch_rov rn rdv rov) ((f3_add_lp rdv (cl x) rn 0 0).1)) (cl x))) fz icv false fr fev eav (f3_insert_rs (rn - 1)) (f3_insert_rov tkv opv shv wyv bdv fz (rn - 1) (f3_takeOut_rov rn (f3_fetch_rov rn rdv rov) ((f3_add_lp rdv (cl x) rn 0 0).1)) (cl x)))) C iwX3 0 rfl rfl 14 (by decide) wk_394 rfl tyX3 tyX3_ok nmX3 rfl rfl (bI_nar _) (bI_fit _) (Nat.le_of_ble_eq_true rfl) rfl dX3_add_92 ?_
        refine gz_iload_n C 0 dX3_add_95 rfl ?_
        exact gz_iret C hr hk (by first | rfl | (simp only [f3_add, f3_add_thr, f3_add_isr, f3_add_rn, f3_add_rdv, f3_add_exa, f3_add_rs, f3_add_rov, if_pos h_1, if_pos h_2, if_pos h_3]) | (simp only [f3_add, f3_add_thr, f3_add_isr, f3_add_rn, f3_add_rdv, f3_add_exa, f3_add_rs, f3_add_rov, if_pos h_1, if_pos h_2, if_pos h_3]; rfl)) (by first | rfl | (simp only [f3_add, f3_add_thr, f3_add_isr, f3_add_rn, f3_add_rdv, f3_add_exa, f3_add_rs, f3_add_rov, if_pos h_1, if_pos h_2, if_pos h_3]) | (simp only [f3_add, f3_add_thr, f3_add_isr, f3_add_rn, f3_add_rdv, f3_add_exa, f3_add_rs, f3_add_rov, if_pos h_1, if_pos h_2, if_pos h_3]; rfl)) (Nat.le_refl _) (Nat.le_refl _) dX3_add_96
      · have g_3 : ¬ (fz ≤ ((f3_add_lp rdv (cl x) rn 0 0).1)) := (Nat.not_le.mpr h_3)
        refine gz_bipush (v := ((-13))) C dX3_add_68 (by decide) ?_
        exact gz_iret C hr hk (by first | rfl | (simp only [f3_add, f3_add_thr, f3_add_isr, f3_add_rn, f3_add_rdv, f3_add_exa, f3_add_rs, f3_add_rov, if_pos h_1, if_pos h_2, if_neg g_3]) | (simp only [f3_add, f3_add_thr, f3_add_isr, f3_add_rn, f3_add_rdv, f3_add_exa, f3_add_rs, f3_add_rov, if_pos h_1, if_pos h_2, if_neg g_3]; rfl)) (by first | rfl | (simp only [f3_add, f3_add_thr, f3_add_isr, f3_add_rn, f3_add_rdv, f3_add_exa, f3_add_rs, f3_add_rov, if_pos h_1, if_pos h_2, if_neg g_3]) | (simp only [f3_add, f3_add_thr, f3_add_isr, f3_add_rn, f3_add_rdv, f3_add_exa, f3_add_rs, f3_add_rov, if_pos h_1, if_pos h_2, if_neg g_3]; rfl)) (Nat.le_refl _) (Nat.le_refl _) dX3_add_70
    · have g_2 : ¬ (isr = true) := (by rw [h_2]; decide)
      refine gz_bipush (v := ((-13))) C dX3_add_23 (by decide) ?_
      exact gz_iret C hr hk (by first | rfl | (simp only [f3_add, f3_add_thr, f3_add_isr, f3_add_rn, f3_add_rdv, f3_add_exa, f3_add_rs, f3_add_rov, if_pos h_1, if_neg g_2]) | (simp only [f3_add, f3_add_thr, f3_add_isr, f3_add_rn, f3_add_rdv, f3_add_exa, f3_add_rs, f3_add_rov, if_pos h_1, if_neg g_2]; rfl)) (by first | rfl | (simp only [f3_add, f3_add_thr, f3_add_isr, f3_add_rn, f3_add_rdv, f3_add_exa, f3_add_rs, f3_add_rov, if_pos h_1, if_neg g_2]) | (simp only [f3_add, f3_add_thr, f3_add_isr, f3_add_rn, f3_add_rdv, f3_add_exa, f3_add_rs, f3_add_rov, if_pos h_1, if_neg g_2]; rfl)) (Nat.le_refl _) (Nat.le_refl _) dX3_add_25
  · have g_1 : ¬ ((f3_isStop sn x) = true) := (by rw [h_1]; decide)
    refine gz_bipush (v := ((-11))) C dX3_add_13 (by decide) ?_
    exact gz_iret C hr hk (by first | rfl | (simp only [f3_add, f3_add_thr, f3_add_isr, f3_add_rn, f3_add_rdv, f3_add_exa, f3_add_rs, f3_add_rov, if_neg g_1]) | (simp only [f3_add, f3_add_thr, f3_add_isr, f3_add_rn, f3_add_rdv, f3_add_exa, f3_add_rs, f3_add_rov, if_neg g_1]; rfl)) (by first | rfl | (simp only [f3_add, f3_add_thr, f3_add_isr, f3_add_rn, f3_add_rdv, f3_add_exa, f3_add_rs, f3_add_rov, if_neg g_1]) | (simp only [f3_add, f3_add_thr, f3_add_isr, f3_add_rn, f3_add_rdv, f3_add_exa, f3_add_rs, f3_add_rov, if_neg g_1]; rfl)) (Nat.le_refl _) (Nat.le_refl _) dX3_add_15

def f3_exchange (tkv : Nat → Int64) (opv : Nat → Int64) (shv : Nat → Int64) (wyv : Nat → Int64) (bdv : Nat → Bool) (isr : Bool) (rn : Nat) (rdv : Nat → Nat) (fz : Nat) (rov : Nat → Nat) (x : Int32) (y : Int32) : Int32 := (if x < 0 then (-11) else (if 0 ≤ y then (if isr = true then (if (nI rn) ≤ x then (-11) else (if y < (nI rn) then (if (cl x) = (cl y) then (-13) else (if (cl x) < fz then (-13) else (if fz ≤ (cl y) then (if (f3_better tkv opv shv wyv bdv rn (f3_fetch_rov rn rdv rov) (cl x) (cl y)) = true then nI 1 else nI 0) else (-13)))) else (-11))) else (-13)) else (-11)))
def f3_exchange_thr (tkv : Nat → Int64) (opv : Nat → Int64) (shv : Nat → Int64) (wyv : Nat → Int64) (bdv : Nat → Bool) (isr : Bool) (rn : Nat) (rdv : Nat → Nat) (fz : Nat) (rov : Nat → Nat) (x : Int32) (y : Int32) : Int32 := (if x < 0 then nI 0 else (if 0 ≤ y then (if isr = true then (if (nI rn) ≤ x then nI 0 else (if y < (nI rn) then (if (cl x) = (cl y) then nI 0 else (if (cl x) < fz then nI 0 else (if fz ≤ (cl y) then (if (f3_better tkv opv shv wyv bdv rn (f3_fetch_rov rn rdv rov) (cl x) (cl y)) = true then nI 0 else nI 0) else nI 0))) else nI 0)) else nI 0) else nI 0))
def f3_exchange_isr (tkv : Nat → Int64) (opv : Nat → Int64) (shv : Nat → Int64) (wyv : Nat → Int64) (bdv : Nat → Bool) (isr : Bool) (rn : Nat) (rdv : Nat → Nat) (fz : Nat) (rov : Nat → Nat) (x : Int32) (y : Int32) : Bool := (if x < 0 then isr else (if 0 ≤ y then (if isr = true then (if (nI rn) ≤ x then isr else (if y < (nI rn) then (if (cl x) = (cl y) then isr else (if (cl x) < fz then isr else (if fz ≤ (cl y) then (if (f3_better tkv opv shv wyv bdv rn (f3_fetch_rov rn rdv rov) (cl x) (cl y)) = true then f3_keep_isr else isr) else isr))) else isr)) else isr) else isr))
def f3_exchange_rn (tkv : Nat → Int64) (opv : Nat → Int64) (shv : Nat → Int64) (wyv : Nat → Int64) (bdv : Nat → Bool) (isr : Bool) (rn : Nat) (rdv : Nat → Nat) (fz : Nat) (rov : Nat → Nat) (x : Int32) (y : Int32) : Nat := (if x < 0 then rn else (if 0 ≤ y then (if isr = true then (if (nI rn) ≤ x then rn else (if y < (nI rn) then (if (cl x) = (cl y) then rn else (if (cl x) < fz then rn else (if fz ≤ (cl y) then (if (f3_better tkv opv shv wyv bdv rn (f3_fetch_rov rn rdv rov) (cl x) (cl y)) = true then f3_keep_rn rn else rn) else rn))) else rn)) else rn) else rn))
def f3_exchange_rdv (tkv : Nat → Int64) (opv : Nat → Int64) (shv : Nat → Int64) (wyv : Nat → Int64) (bdv : Nat → Bool) (isr : Bool) (rn : Nat) (rdv : Nat → Nat) (fz : Nat) (rov : Nat → Nat) (x : Int32) (y : Int32) : Nat → Nat := (if x < 0 then rdv else (if 0 ≤ y then (if isr = true then (if (nI rn) ≤ x then rdv else (if y < (nI rn) then (if (cl x) = (cl y) then rdv else (if (cl x) < fz then rdv else (if fz ≤ (cl y) then (if (f3_better tkv opv shv wyv bdv rn (f3_fetch_rov rn rdv rov) (cl x) (cl y)) = true then f3_keep_rdv rdv rn (f3_better_rov tkv opv shv wyv bdv rn (f3_fetch_rov rn rdv rov) (cl x) (cl y)) else rdv) else rdv))) else rdv)) else rdv) else rdv))
def f3_exchange_exa (tkv : Nat → Int64) (opv : Nat → Int64) (shv : Nat → Int64) (wyv : Nat → Int64) (bdv : Nat → Bool) (isr : Bool) (rn : Nat) (rdv : Nat → Nat) (fz : Nat) (exa : Bool) (rov : Nat → Nat) (x : Int32) (y : Int32) : Bool := (if x < 0 then exa else (if 0 ≤ y then (if isr = true then (if (nI rn) ≤ x then exa else (if y < (nI rn) then (if (cl x) = (cl y) then exa else (if (cl x) < fz then exa else (if fz ≤ (cl y) then (if (f3_better tkv opv shv wyv bdv rn (f3_fetch_rov rn rdv rov) (cl x) (cl y)) = true then false else exa) else exa))) else exa)) else exa) else exa))
def f3_exchange_rs (tkv : Nat → Int64) (opv : Nat → Int64) (shv : Nat → Int64) (wyv : Nat → Int64) (bdv : Nat → Bool) (isr : Bool) (rn : Nat) (rdv : Nat → Nat) (fz : Nat) (rs : Nat) (rov : Nat → Nat) (x : Int32) (y : Int32) : Nat := (if x < 0 then rs else (if 0 ≤ y then (if isr = true then (if (nI rn) ≤ x then rs else (if y < (nI rn) then (if (cl x) = (cl y) then rs else (if (cl x) < fz then rs else (if fz ≤ (cl y) then (if (f3_better tkv opv shv wyv bdv rn (f3_fetch_rov rn rdv rov) (cl x) (cl y)) = true then rn else rn) else rs))) else rs)) else rs) else rs))
def f3_exchange_rov (tkv : Nat → Int64) (opv : Nat → Int64) (shv : Nat → Int64) (wyv : Nat → Int64) (bdv : Nat → Bool) (isr : Bool) (rn : Nat) (rdv : Nat → Nat) (fz : Nat) (rov : Nat → Nat) (x : Int32) (y : Int32) : Nat → Nat := (if x < 0 then rov else (if 0 ≤ y then (if isr = true then (if (nI rn) ≤ x then rov else (if y < (nI rn) then (if (cl x) = (cl y) then rov else (if (cl x) < fz then rov else (if fz ≤ (cl y) then (if (f3_better tkv opv shv wyv bdv rn (f3_fetch_rov rn rdv rov) (cl x) (cl y)) = true then f3_better_rov tkv opv shv wyv bdv rn (f3_fetch_rov rn rdv rov) (cl x) (cl y) else f3_better_rov tkv opv shv wyv bdv rn (f3_fetch_rov rn rdv rov) (cl x) (cl y)) else rov))) else rov)) else rov) else rov))
set_option maxRecDepth 100000 in
set_option maxHeartbeats 4000000 in
theorem kX3_exchange (l : Launch) (D : va_G) (h : Nat) (ad : Nat → Nat) (cI : ClassId) (cJ : ClassId) (cZ : ClassId) (thr : Int32) (sn : Nat) (tkv : Nat → Int64) (opv : Nat → Int64) (shv : Nat → Int64) (ldv : Nat → Int32) (lim : Int32) (wyv : Nat → Int64) (bdv : Nat → Bool) (isr : Bool) (rn : Nat) (rdv : Nat → Nat) (fz : Nat) (icv : Nat → Nat) (exa : Bool) (fr : Nat) (fev : Nat → Nat) (eav : Nat → Int64) (rs : Nat) (rov : Nat → Nat) (x : Int32) (y : Int32) (hrn : rn ≤ 20) (hrd : ∀ k, k < rn → rdv k ≤ 20) (hfz : fz ≤ 20) : gz_M l yX3_exchange cX3_exchange 3 (some .int) ({ frames := 2, cells := 0, slots := 0, locals := 54 } : Room) D [(cI, .int), (cJ, .long), (cZ, .boolean)] [.ref h, .int x, .int y] (wM h ad cI cJ cZ thr sn tkv opv shv ldv lim wyv bdv isr rn rdv fz icv exa fr fev eav rs rov) (some (.int (f3_exchange tkv opv shv wyv bdv isr rn rdv fz rov x y))) (wM h ad cI cJ cZ (f3_exchange_thr tkv opv shv wyv bdv isr rn rdv fz rov x y) sn tkv opv shv ldv lim wyv bdv (f3_exchange_isr tkv opv shv wyv bdv isr rn rdv fz rov x y) (f3_exchange_rn tkv opv shv wyv bdv isr rn rdv fz rov x y) (f3_exchange_rdv tkv opv shv wyv bdv isr rn rdv fz rov x y) fz icv (f3_exchange_exa tkv opv shv wyv bdv isr rn rdv fz exa rov x y) fr fev eav (f3_exchange_rs tkv opv shv wyv bdv isr rn rdv fz rs rov x y) (f3_exchange_rov tkv opv shv wyv bdv isr rn rdv fz rov x y)) 0 0 := by
  refine gz_met l (by decide) (Nat.le_of_ble_eq_true rfl) [(0, .ref h), (1, .int x), (2, .int y)] rfl ?_
  intro sz p e s m args below meth c C hr hk hnm
  have C : gz_C p s m args c cX3_exchange 3 RX3 D [(cI, .int), (cJ, .long), (cZ, .boolean)] (va_A (wM h ad cI cJ cZ thr sn tkv opv shv ldv lim wyv bdv isr rn rdv fz icv exa fr fev eav rs rov) sz) := C
  refine gz_aload_n C 0 dX3_exchange_0 rfl ?_
  refine gz_iconst (v := nI 0) C dX3_exchange_1 (by decide) ?_
  refine gz_put (ci := 4) (ws2 := (wM h ad cI cJ cZ (nI 0) sn tkv opv shv ldv lim wyv bdv isr rn rdv fz icv exa fr fev eav rs rov)) C iwX3 0 rfl rfl 0 (by decide) wk_380 rfl tyX3 tyX3_ok nmX3 rfl rfl rfl rfl (Nat.le_of_ble_eq_true rfl) rfl dX3_exchange_2 ?_
  refine gz_iload_n C 1 dX3_exchange_5 rfl ?_
  refine gz_if_lt C 13 dX3_exchange_6 (by decide) (fun h_1 => ?_) (fun h_1 => ?_)
  · skip
    refine gz_bipush (v := ((-11))) C dX3_exchange_13 (by decide) ?_
    exact gz_iret C hr hk (by first | rfl | (simp only [f3_exchange, f3_exchange_thr, f3_exchange_isr, f3_exchange_rn, f3_exchange_rdv, f3_exchange_exa, f3_exchange_rs, f3_exchange_rov, if_pos h_1]) | (simp only [f3_exchange, f3_exchange_thr, f3_exchange_isr, f3_exchange_rn, f3_exchange_rdv, f3_exchange_exa, f3_exchange_rs, f3_exchange_rov, if_pos h_1]; rfl)) (by first | rfl | (simp only [f3_exchange, f3_exchange_thr, f3_exchange_isr, f3_exchange_rn, f3_exchange_rdv, f3_exchange_exa, f3_exchange_rs, f3_exchange_rov, if_pos h_1]) | (simp only [f3_exchange, f3_exchange_thr, f3_exchange_isr, f3_exchange_rn, f3_exchange_rdv, f3_exchange_exa, f3_exchange_rs, f3_exchange_rov, if_pos h_1]; rfl)) (Nat.le_refl _) (Nat.le_refl _) dX3_exchange_15
  · have g_1 : ¬ (x < 0) := h_1
    refine gz_iload_n C 2 dX3_exchange_9 rfl ?_
    refine gz_if_ge C 16 dX3_exchange_10 (by decide) (fun h_2 => ?_) (fun h_2 => ?_)
    · skip
      refine gz_aload_n C 0 dX3_exchange_16 rfl ?_
      refine gz_get (ci := 4) C iwX3 0 rfl rfl 9 (by decide) wk_389 rfl rfl dX3_exchange_17 ?_
      refine gz_bif_ne C 26 dX3_exchange_20 (by decide) (fun h_3 => ?_) (fun h_3 => ?_)
      · skip
        refine gz_iload_n C 1 dX3_exchange_26 rfl ?_
        refine gz_aload_n C 0 dX3_exchange_27 rfl ?_
        refine gz_get (ci := 4) C iwX3 0 rfl rfl 10 (by decide) wk_390 rfl rfl dX3_exchange_28 ?_
        refine gz_icmp_ge C 42 dX3_exchange_31 (by decide) (fun h_4 => ?_) (fun h_4 => ?_)
        · skip
          refine gz_bipush (v := ((-11))) C dX3_exchange_42 (by decide) ?_
          exact gz_iret C hr hk (by first | rfl | (simp only [f3_exchange, f3_exchange_thr, f3_exchange_isr, f3_exchange_rn, f3_exchange_rdv, f3_exchange_exa, f3_exchange_rs, f3_exchange_rov, if_neg g_1, if_pos h_2, if_pos h_3, if_pos h_4]) | (simp only [f3_exchange, f3_exchange_thr, f3_exchange_isr, f3_exchange_rn, f3_exchange_rdv, f3_exchange_exa, f3_exchange_rs, f3_exchange_rov, if_neg g_1, if_pos h_2, if_pos h_3, if_pos h_4]; rfl)) (by first | rfl | (simp only [f3_exchange, f3_exchange_thr, f3_exchange_isr, f3_exchange_rn, f3_exchange_rdv, f3_exchange_exa, f3_exchange_rs, f3_exchange_rov, if_neg g_1, if_pos h_2, if_pos h_3, if_pos h_4]) | (simp only [f3_exchange, f3_exchange_thr, f3_exchange_isr, f3_exchange_rn, f3_exchange_rdv, f3_exchange_exa, f3_exchange_rs, f3_exchange_rov, if_neg g_1, if_pos h_2, if_pos h_3, if_pos h_4]; rfl)) (Nat.le_refl _) (Nat.le_refl _) dX3_exchange_44
        · have g_4 : ¬ ((nI rn) ≤ x) := h_4
          refine gz_iload_n C 2 dX3_exchange_34 rfl ?_
          refine gz_aload_n C 0 dX3_exchange_35 rfl ?_
          refine gz_get (ci := 4) C iwX3 0 rfl rfl 10 (by decide) wk_390 rfl rfl dX3_exchange_36 ?_
          refine gz_icmp_lt C 45 dX3_exchange_39 (by decide) (fun h_5 => ?_) (fun h_5 => ?_)
          · skip
            have hy0 : ¬ y < 0 := Int32.not_lt.mpr h_2
            have hc1 := cl_of g_1
            have hc2 : cl x < rn := cl_ltn g_1 g_4 (by omega)
            have hd1 := cl_of hy0
            have hd2 : cl y < rn := cl_ltp hy0 h_5 (by omega)
            refine gz_lve (lv2 := [(0, .ref h), (1, .int (nI (cl x))), (2, .int y)]) (by rw [← hc1]) ?_
            refine gz_lve (lv2 := [(0, .ref h), (1, .int (nI (cl x))), (2, .int (nI (cl y)))]) (by rw [← hd1]) ?_
            refine gz_iload_n C 1 dX3_exchange_45 rfl ?_
            refine gz_iload_n C 2 dX3_exchange_46 rfl ?_
            refine gz_ncmp_eq C 66 (by omega) (by omega) dX3_exchange_47 (by decide) (fun h_6 => ?_) (fun h_6 => ?_)
            · skip
              refine gz_bipush (v := ((-13))) C dX3_exchange_66 (by decide) ?_
              exact gz_iret C hr hk (by first | rfl | (simp only [f3_exchange, f3_exchange_thr, f3_exchange_isr, f3_exchange_rn, f3_exchange_rdv, f3_exchange_exa, f3_exchange_rs, f3_exchange_rov, if_neg g_1, if_pos h_2, if_pos h_3, if_neg g_4, if_pos h_5, if_pos h_6]) | (simp only [f3_exchange, f3_exchange_thr, f3_exchange_isr, f3_exchange_rn, f3_exchange_rdv, f3_exchange_exa, f3_exchange_rs, f3_exchange_rov, if_neg g_1, if_pos h_2, if_pos h_3, if_neg g_4, if_pos h_5, if_pos h_6]; rfl)) (by first | rfl | (simp only [f3_exchange, f3_exchange_thr, f3_exchange_isr, f3_exchange_rn, f3_exchange_rdv, f3_exchange_exa, f3_exchange_rs, f3_exchange_rov, if_neg g_1, if_pos h_2, if_pos h_3, if_neg g_4, if_pos h_5, if_pos h_6]) | (simp only [f3_exchange, f3_exchange_thr, f3_exchange_isr, f3_exchange_rn, f3_exchange_rdv, f3_exchange_exa, f3_exchange_rs, f3_exchange_rov, if_neg g_1, if_pos h_2, if_pos h_3, if_neg g_4, if_pos h_5, if_pos h_6]; rfl)) (Nat.le_refl _) (Nat.le_refl _) dX3_exchange_68
            · have g_6 : ¬ ((cl x) = (cl y)) := h_6
              refine gz_iload_n C 1 dX3_exchange_50 rfl ?_
              refine gz_aload_n C 0 dX3_exchange_51 rfl ?_
              refine gz_get (ci := 4) C iwX3 0 rfl rfl 12 (by decide) wk_392 rfl rfl dX3_exchange_52 ?_
              refine gz_ncmp_lt C 66 (by omega) (by omega) dX3_exchange_55 (by decide) (fun h_7 => ?_) (fun h_7 => ?_)
              · skip
                refine gz_bipush (v := ((-13))) C dX3_exchange_66 (by decide) ?_
                exact gz_iret C hr hk (by first | rfl | (simp only [f3_exchange, f3_exchange_thr, f3_exchange_isr, f3_exchange_rn, f3_exchange_rdv, f3_exchange_exa, f3_exchange_rs, f3_exchange_rov, if_neg g_1, if_pos h_2, if_pos h_3, if_neg g_4, if_pos h_5, if_neg g_6, if_pos h_7]) | (simp only [f3_exchange, f3_exchange_thr, f3_exchange_isr, f3_exchange_rn, f3_exchange_rdv, f3_exchange_exa, f3_exchange_rs, f3_exchange_rov, if_neg g_1, if_pos h_2, if_pos h_3, if_neg g_4, if_pos h_5, if_neg g_6, if_pos h_7]; rfl)) (by first | rfl | (simp only [f3_exchange, f3_exchange_thr, f3_exchange_isr, f3_exchange_rn, f3_exchange_rdv, f3_exchange_exa, f3_exchange_rs, f3_exchange_rov, if_neg g_1, if_pos h_2, if_pos h_3, if_neg g_4, if_pos h_5, if_neg g_6, if_pos h_7]) | (simp only [f3_exchange, f3_exchange_thr, f3_exchange_isr, f3_exchange_rn, f3_exchange_rdv, f3_exchange_exa, f3_exchange_rs, f3_exchange_rov, if_neg g_1, if_pos h_2, if_pos h_3, if_neg g_4, if_pos h_5, if_neg g_6, if_pos h_7]; rfl)) (Nat.le_refl _) (Nat.le_refl _) dX3_exchange_68
              · have g_7 : ¬ ((cl x) < fz) := (Nat.not_lt.mpr h_7)
                refine gz_iload_n C 2 dX3_exchange_58 rfl ?_
                refine gz_aload_n C 0 dX3_exchange_59 rfl ?_
                refine gz_get (ci := 4) C iwX3 0 rfl rfl 12 (by decide) wk_392 rfl rfl dX3_exchange_60 ?_
                refine gz_ncmp_ge C 69 (by omega) (by omega) dX3_exchange_63 (by decide) (fun h_8 => ?_) (fun h_8 => ?_)
                · skip
                  refine gz_aload_n C 0 dX3_exchange_69 rfl ?_
                  refine gz_callV (wr := []) (n := 0) (ws2 := (wM h ad cI cJ cZ (nI 0) sn tkv opv shv ldv lim wyv bdv isr rn rdv fz icv exa fr fev eav (f3_fetch_rs rn) (f3_fetch_rov rn rdv rov))) (st2 := []) (cells2 := 0) (slots2 := 0) (ci := 4) C (kX3_fetch l D h ad cI cJ cZ (nI 0) sn tkv opv shv ldv lim wyv bdv isr rn rdv fz icv exa fr fev eav rs rov (by first | assumption | omega)) (WB_V wk_551 wk_553 ws_32 wk_4 wk_554) (by decide +kernel) ⟨⟨rfl, rfl⟩, Nat.le_of_ble_eq_true rfl, Nat.le_of_ble_eq_true rfl⟩ [0, 1, 2, 3, 4, 5, 6, 7, 8, 9, 10, 11] [] [0, 1, 2] rfl rfl rfl (by decide) rfl 0 rfl rfl rfl rfl (Nat.le_of_ble_eq_true rfl) dX3_exchange_70 ⟨Nat.zero_le _, Nat.zero_le _⟩ rfl rfl rfl ?_
                  refine gz_wse (ws2 := (wM h ad cI cJ cZ (nI 0) sn tkv opv shv ldv lim wyv bdv isr rn rdv fz icv exa fr fev eav rn (f3_fetch_rov rn rdv rov))) rfl ?_
                  refine gz_aload_n C 0 dX3_exchange_73 rfl ?_
                  refine gz_iload_n C 1 dX3_exchange_74 rfl ?_
                  refine gz_iload_n C 2 dX3_exchange_75 rfl ?_
                  refine gz_callV (wr := []) (n := 2) (ws2 := (wM h ad cI cJ cZ (nI 0) sn tkv opv shv ldv lim wyv bdv isr rn rdv fz icv exa fr fev eav rn (f3_better_rov tkv opv shv wyv bdv rn (f3_fetch_rov rn rdv rov) (cl x) (cl y)))) (st2 := [.int (bI (f3_better tkv opv shv wyv bdv rn (f3_fetch_rov rn rdv rov) (cl x) (cl y)))]) (cells2 := 0) (slots2 := 0) (ci := 4) C (kX3_better l D h ad cI cJ cZ (nI 0) sn tkv opv shv ldv lim wyv bdv isr rn rdv fz icv exa fr fev eav rn (f3_fetch_rov rn rdv rov) (cl x) (cl y) (by first | assumption | omega) (q3_fetch_le hrd) (by first | assumption | omega) (by first | assumption | omega)) (WB_V wk_519 wk_521 ws_29 wk_4 wk_522) (by decide +kernel) ⟨⟨rfl, rfl⟩, Nat.le_of_ble_eq_true rfl, Nat.le_of_ble_eq_true rfl⟩ [0, 1, 2, 3, 4, 5, 6, 7, 8, 9, 10, 11] [] [0, 1, 2] rfl rfl rfl (by decide) rfl 0 rfl rfl rfl rfl (Nat.le_of_ble_eq_true rfl) dX3_exchange_76 ⟨Nat.zero_le _, Nat.zero_le _⟩ rfl rfl rfl ?_
                  refine gz_bif_ne C 84 dX3_exchange_79 (by decide) (fun h_9 => ?_) (fun h_9 => ?_)
                  · skip
                    refine gz_aload_n C 0 dX3_exchange_84 rfl ?_
                    refine gz_callV (wr := []) (n := 0) (ws2 := (wM h ad cI cJ cZ (nI 0) sn tkv opv shv ldv lim wyv bdv f3_keep_isr (f3_keep_rn rn) (f3_keep_rdv rdv rn (f3_better_rov tkv opv shv wyv bdv rn (f3_fetch_rov rn rdv rov) (cl x) (cl y))) fz icv exa fr fev eav rn (f3_better_rov tkv opv shv wyv bdv rn (f3_fetch_rov rn rdv rov) (cl x) (cl y)))) (st2 := []) (cells2 := 0) (slots2 := 0) (ci := 4) C (kX3_keep l D h ad cI cJ cZ (nI 0) sn tkv opv shv ldv lim wyv bdv isr rn rdv fz icv exa fr fev eav rn (f3_better_rov tkv opv shv wyv bdv rn (f3_fetch_rov rn rdv rov) (cl x) (cl y)) (by first | assumption | omega)) (WB_V wk_527 wk_529 ws_31 wk_4 wk_530) (by decide +kernel) ⟨⟨rfl, rfl⟩, Nat.le_of_ble_eq_true rfl, Nat.le_of_ble_eq_true rfl⟩ [0, 1, 2, 3, 4, 5, 6, 7, 8, 9, 10, 11] [] [0, 1, 2] rfl rfl rfl (by decide) rfl 0 rfl rfl rfl rfl (Nat.le_of_ble_eq_true rfl) dX3_exchange_85 ⟨Nat.zero_le _, Nat.zero_le _⟩ rfl rfl rfl ?_
                    refine gz_aload_n C 0 dX3_exchange_88 rfl ?_
                    refine gz_iconst (v := nI 0) C dX3_exchange_89 (by decide) ?_
                    refine gz_sw (v := .int (nI 0)) (w := .int (bI false)) (by rw [show nI 0 = bI false from (by first | rfl | decide | ((repeat' split) <;> rfl))]) ?_
                    refine gz_put (ci := 4) (ws2 := (wM h ad cI cJ cZ (nI 0) sn tkv opv shv ldv lim wyv bdv f3_keep_isr (f3_keep_rn rn) (f3_keep_rdv rdv rn (f3_better_rov tkv opv shv wyv bdv rn (f3_fetch_rov rn rdv rov) (cl x) (cl y))) fz icv false fr fev eav rn (f3_better_rov tkv opv shv wyv bdv rn (f3_fetch_rov rn rdv rov) (cl x) (cl y)))) C iwX3 0 rfl rfl 14 (by decide) wk_394 rfl tyX3 tyX3_ok nmX3 rfl rfl (bI_nar _) (bI_fit _) (Nat.le_of_ble_eq_true rfl) rfl dX3_exchange_90 ?_
                    refine gz_iconst (v := nI 1) C dX3_exchange_93 (by decide) ?_
                    exact gz_iret C hr hk (by first | rfl | (simp only [f3_exchange, f3_exchange_thr, f3_exchange_isr, f3_exchange_rn, f3_exchange_rdv, f3_exchange_exa, f3_exchange_rs, f3_exchange_rov, if_neg g_1, if_pos h_2, if_pos h_3, if_neg g_4, if_pos h_5, if_neg g_6, if_neg g_7, if_pos h_8, if_pos h_9]) | (simp only [f3_exchange, f3_exchange_thr, f3_exchange_isr, f3_exchange_rn, f3_exchange_rdv, f3_exchange_exa, f3_exchange_rs, f3_exchange_rov, if_neg g_1, if_pos h_2, if_pos h_3, if_neg g_4, if_pos h_5, if_neg g_6, if_neg g_7, if_pos h_8, if_pos h_9]; rfl)) (by first | rfl | (simp only [f3_exchange, f3_exchange_thr, f3_exchange_isr, f3_exchange_rn, f3_exchange_rdv, f3_exchange_exa, f3_exchange_rs, f3_exchange_rov, if_neg g_1, if_pos h_2, if_pos h_3, if_neg g_4, if_pos h_5, if_neg g_6, if_neg g_7, if_pos h_8, if_pos h_9]) | (simp only [f3_exchange, f3_exchange_thr, f3_exchange_isr, f3_exchange_rn, f3_exchange_rdv, f3_exchange_exa, f3_exchange_rs, f3_exchange_rov, if_neg g_1, if_pos h_2, if_pos h_3, if_neg g_4, if_pos h_5, if_neg g_6, if_neg g_7, if_pos h_8, if_pos h_9]; rfl)) (Nat.le_refl _) (Nat.le_refl _) dX3_exchange_94
                  · have g_9 : ¬ ((f3_better tkv opv shv wyv bdv rn (f3_fetch_rov rn rdv rov) (cl x) (cl y)) = true) := (by rw [h_9]; decide)
                    refine gz_iconst (v := nI 0) C dX3_exchange_82 (by decide) ?_
                    exact gz_iret C hr hk (by first | rfl | (simp only [f3_exchange, f3_exchange_thr, f3_exchange_isr, f3_exchange_rn, f3_exchange_rdv, f3_exchange_exa, f3_exchange_rs, f3_exchange_rov, if_neg g_1, if_pos h_2, if_pos h_3, if_neg g_4, if_pos h_5, if_neg g_6, if_neg g_7, if_pos h_8, if_neg g_9]) | (simp only [f3_exchange, f3_exchange_thr, f3_exchange_isr, f3_exchange_rn, f3_exchange_rdv, f3_exchange_exa, f3_exchange_rs, f3_exchange_rov, if_neg g_1, if_pos h_2, if_pos h_3, if_neg g_4, if_pos h_5, if_neg g_6, if_neg g_7, if_pos h_8, if_neg g_9]; rfl)) (by first | rfl | (simp only [f3_exchange, f3_exchange_thr, f3_exchange_isr, f3_exchange_rn, f3_exchange_rdv, f3_exchange_exa, f3_exchange_rs, f3_exchange_rov, if_neg g_1, if_pos h_2, if_pos h_3, if_neg g_4, if_pos h_5, if_neg g_6, if_neg g_7, if_pos h_8, if_neg g_9]) | (simp only [f3_exchange, f3_exchange_thr, f3_exchange_isr, f3_exchange_rn, f3_exchange_rdv, f3_exchange_exa, f3_exchange_rs, f3_exchange_rov, if_neg g_1, if_pos h_2, if_pos h_3, if_neg g_4, if_pos h_5, if_neg g_6, if_neg g_7, if_pos h_8, if_neg g_9]; rfl)) (Nat.le_refl _) (Nat.le_refl _) dX3_exchange_83
                · have g_8 : ¬ (fz ≤ (cl y)) := (Nat.not_le.mpr h_8)
                  refine gz_bipush (v := ((-13))) C dX3_exchange_66 (by decide) ?_
                  exact gz_iret C hr hk (by first | rfl | (simp only [f3_exchange, f3_exchange_thr, f3_exchange_isr, f3_exchange_rn, f3_exchange_rdv, f3_exchange_exa, f3_exchange_rs, f3_exchange_rov, if_neg g_1, if_pos h_2, if_pos h_3, if_neg g_4, if_pos h_5, if_neg g_6, if_neg g_7, if_neg g_8]) | (simp only [f3_exchange, f3_exchange_thr, f3_exchange_isr, f3_exchange_rn, f3_exchange_rdv, f3_exchange_exa, f3_exchange_rs, f3_exchange_rov, if_neg g_1, if_pos h_2, if_pos h_3, if_neg g_4, if_pos h_5, if_neg g_6, if_neg g_7, if_neg g_8]; rfl)) (by first | rfl | (simp only [f3_exchange, f3_exchange_thr, f3_exchange_isr, f3_exchange_rn, f3_exchange_rdv, f3_exchange_exa, f3_exchange_rs, f3_exchange_rov, if_neg g_1, if_pos h_2, if_pos h_3, if_neg g_4, if_pos h_5, if_neg g_6, if_neg g_7, if_neg g_8]) | (simp only [f3_exchange, f3_exchange_thr, f3_exchange_isr, f3_exchange_rn, f3_exchange_rdv, f3_exchange_exa, f3_exchange_rs, f3_exchange_rov, if_neg g_1, if_pos h_2, if_pos h_3, if_neg g_4, if_pos h_5, if_neg g_6, if_neg g_7, if_neg g_8]; rfl)) (Nat.le_refl _) (Nat.le_refl _) dX3_exchange_68
          · have g_5 : ¬ (y < (nI rn)) := h_5
            refine gz_bipush (v := ((-11))) C dX3_exchange_42 (by decide) ?_
            exact gz_iret C hr hk (by first | rfl | (simp only [f3_exchange, f3_exchange_thr, f3_exchange_isr, f3_exchange_rn, f3_exchange_rdv, f3_exchange_exa, f3_exchange_rs, f3_exchange_rov, if_neg g_1, if_pos h_2, if_pos h_3, if_neg g_4, if_neg g_5]) | (simp only [f3_exchange, f3_exchange_thr, f3_exchange_isr, f3_exchange_rn, f3_exchange_rdv, f3_exchange_exa, f3_exchange_rs, f3_exchange_rov, if_neg g_1, if_pos h_2, if_pos h_3, if_neg g_4, if_neg g_5]; rfl)) (by first | rfl | (simp only [f3_exchange, f3_exchange_thr, f3_exchange_isr, f3_exchange_rn, f3_exchange_rdv, f3_exchange_exa, f3_exchange_rs, f3_exchange_rov, if_neg g_1, if_pos h_2, if_pos h_3, if_neg g_4, if_neg g_5]) | (simp only [f3_exchange, f3_exchange_thr, f3_exchange_isr, f3_exchange_rn, f3_exchange_rdv, f3_exchange_exa, f3_exchange_rs, f3_exchange_rov, if_neg g_1, if_pos h_2, if_pos h_3, if_neg g_4, if_neg g_5]; rfl)) (Nat.le_refl _) (Nat.le_refl _) dX3_exchange_44
      · have g_3 : ¬ (isr = true) := (by rw [h_3]; decide)
        refine gz_bipush (v := ((-13))) C dX3_exchange_23 (by decide) ?_
        exact gz_iret C hr hk (by first | rfl | (simp only [f3_exchange, f3_exchange_thr, f3_exchange_isr, f3_exchange_rn, f3_exchange_rdv, f3_exchange_exa, f3_exchange_rs, f3_exchange_rov, if_neg g_1, if_pos h_2, if_neg g_3]) | (simp only [f3_exchange, f3_exchange_thr, f3_exchange_isr, f3_exchange_rn, f3_exchange_rdv, f3_exchange_exa, f3_exchange_rs, f3_exchange_rov, if_neg g_1, if_pos h_2, if_neg g_3]; rfl)) (by first | rfl | (simp only [f3_exchange, f3_exchange_thr, f3_exchange_isr, f3_exchange_rn, f3_exchange_rdv, f3_exchange_exa, f3_exchange_rs, f3_exchange_rov, if_neg g_1, if_pos h_2, if_neg g_3]) | (simp only [f3_exchange, f3_exchange_thr, f3_exchange_isr, f3_exchange_rn, f3_exchange_rdv, f3_exchange_exa, f3_exchange_rs, f3_exchange_rov, if_neg g_1, if_pos h_2, if_neg g_3]; rfl)) (Nat.le_refl _) (Nat.le_refl _) dX3_exchange_25
    · have g_2 : ¬ (0 ≤ y) := h_2
      refine gz_bipush (v := ((-11))) C dX3_exchange_13 (by decide) ?_
      exact gz_iret C hr hk (by first | rfl | (simp only [f3_exchange, f3_exchange_thr, f3_exchange_isr, f3_exchange_rn, f3_exchange_rdv, f3_exchange_exa, f3_exchange_rs, f3_exchange_rov, if_neg g_1, if_neg g_2]) | (simp only [f3_exchange, f3_exchange_thr, f3_exchange_isr, f3_exchange_rn, f3_exchange_rdv, f3_exchange_exa, f3_exchange_rs, f3_exchange_rov, if_neg g_1, if_neg g_2]; rfl)) (by first | rfl | (simp only [f3_exchange, f3_exchange_thr, f3_exchange_isr, f3_exchange_rn, f3_exchange_rdv, f3_exchange_exa, f3_exchange_rs, f3_exchange_rov, if_neg g_1, if_neg g_2]) | (simp only [f3_exchange, f3_exchange_thr, f3_exchange_isr, f3_exchange_rn, f3_exchange_rdv, f3_exchange_exa, f3_exchange_rs, f3_exchange_rov, if_neg g_1, if_neg g_2]; rfl)) (Nat.le_refl _) (Nat.le_refl _) dX3_exchange_15

