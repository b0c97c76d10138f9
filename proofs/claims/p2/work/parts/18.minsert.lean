def q3_good (fz rs : Nat) (z : Int32) : Prop := z = nI (cl z) ∧ fz ≤ cl z ∧ cl z ≤ rs
theorem q3_good_n {fz rs pl : Nat} (h1 : fz ≤ pl) (h2 : pl ≤ rs) (h3 : rs ≤ 20) : q3_good fz rs (nI pl) := by
  unfold q3_good
  rw [cl_nI (by omega)]
  exact ⟨rfl, h1, h2⟩
theorem q3_ch {fz rs pl : Nat} {ch : Int32} {P : Prop} [Decidable P] (h : ch < 0 ∧ pl = fz ∨ q3_good fz rs ch) (h1 : fz ≤ pl) (h2 : pl ≤ rs) (h3 : rs ≤ 20) : (if ch < 0 then nI pl else (if P then ch else nI pl)) < 0 ∧ pl + 1 = fz ∨ q3_good fz rs (if ch < 0 then nI pl else (if P then ch else nI pl)) := by
  right
  by_cases a : ch < 0
  · rw [if_pos a]; exact q3_good_n h1 h2 h3
  · rw [if_neg a]
    rcases h with h | h
    · exact absurd h.1 a
    · split
      · exact h
      · exact q3_good_n h1 h2 h3
theorem q3_pt_le {B rs pl x : Nat} {rov : Nat → Nat} (h : pl ≤ rs) (hx : x ≤ B) (hr : ∀ k, k < rs → rov k ≤ B) : ∀ k, k < rs → f3_takeOut_rov (f3_putIn_rs rs) (f3_putIn_rov rs rov pl x) pl k ≤ B := fun k hk => q3_takeOut_le (rs := rs + 1) (by omega) (q3_putIn_le h hx hr) k (by omega)

def f3_insert_lp (tkv : Nat → Int64) (opv : Nat → Int64) (shv : Nat → Int64) (wyv : Nat → Int64) (bdv : Nat → Bool) (rs : Nat) (x : Nat) : Nat → Int32 → Int64 → Nat → (Nat → Nat) → Int32 × Int64 × Nat × (Nat → Nat)
  | 0, ch, lst, pl, rov => (ch, lst, pl, rov)
  | n + 1, ch, lst, pl, rov => f3_insert_lp tkv opv shv wyv bdv rs x n ((if ch < 0 then nI pl else (if lst ≤ (f3_measure tkv opv shv wyv bdv (f3_putIn_rs rs) (f3_putIn_rov rs rov pl x)) then ch else nI pl))) ((if ch < 0 then f3_measure tkv opv shv wyv bdv (f3_putIn_rs rs) (f3_putIn_rov rs rov pl x) else (if lst ≤ (f3_measure tkv opv shv wyv bdv (f3_putIn_rs rs) (f3_putIn_rov rs rov pl x)) then lst else f3_measure tkv opv shv wyv bdv (f3_putIn_rs rs) (f3_putIn_rov rs rov pl x)))) (pl + 1) (f3_takeOut_rov (f3_putIn_rs rs) (f3_putIn_rov rs rov pl x) pl)
set_option maxRecDepth 100000 in
set_option maxHeartbeats 4000000 in
theorem lX3_insert_lp {p : Program} {l : Launch} {e : Env} {R : Room} {s : State} {m : MethodId} {args : Array Value} {below : List Frame} {meth : Method} {c : Code} {cells slots : Nat} {Q : State → Prop} {A : Nat → Prop} {D : va_G} (h : Nat) (ad : Nat → Nat) (cI : ClassId) (cJ : ClassId) (cZ : ClassId) (thr : Int32) (sn : Nat) (tkv : Nat → Int64) (opv : Nat → Int64) (shv : Nat → Int64) (ldv : Nat → Int32) (lim : Int32) (wyv : Nat → Int64) (bdv : Nat → Bool) (isr : Bool) (rn : Nat) (rdv : Nat → Nat) (fz : Nat) (icv : Nat → Nat) (exa : Bool) (fr : Nat) (fev : Nat → Nat) (eav : Nat → Int64) (rs : Nat) (x : Nat) (hrs : rs ≤ 19) (hfz : fz ≤ rs) (hxx : x ≤ 20) (hR : 1 ≤ R.frames ∧ 29 ≤ R.locals) (hce : cells ≤ R.cells ∧ slots ≤ R.slots) (C : gz_C p s m args c cX3_insert 8 RX3 D [(cI, .int), (cJ, .long), (cZ, .boolean)] A) : ∀ (n : Nat) (ch : Int32) (lst : Int64) (pl : Nat) (rov : Nat → Nat), (pl + n = rs + 1) → (fz ≤ pl) → (ch < 0 ∧ pl = fz ∨ q3_good fz rs ch) → (∀ k, k < rs → rov k ≤ 20) → ((((f3_insert_lp tkv opv shv wyv bdv rs x n ch lst pl rov).2.2.1) + 0 = rs + 1) → (fz ≤ ((f3_insert_lp tkv opv shv wyv bdv rs x n ch lst pl rov).2.2.1)) → (((f3_insert_lp tkv opv shv wyv bdv rs x n ch lst pl rov).1) < 0 ∧ ((f3_insert_lp tkv opv shv wyv bdv rs x n ch lst pl rov).2.2.1) = fz ∨ q3_good fz rs ((f3_insert_lp tkv opv shv wyv bdv rs x n ch lst pl rov).1)) → (∀ k, k < rs → ((f3_insert_lp tkv opv shv wyv bdv rs x n ch lst pl rov).2.2.2) k ≤ 20) → GZ p l e R s m args below meth c 8 D A cells slots Q (wM h ad cI cJ cZ thr sn tkv opv shv ldv lim wyv bdv isr rn rdv fz icv exa fr fev eav rs ((f3_insert_lp tkv opv shv wyv bdv rs x n ch lst pl rov).2.2.2)) [(0, .ref h), (1, .int (nI x)), (2, .int ((f3_insert_lp tkv opv shv wyv bdv rs x n ch lst pl rov).1)), (3, .long ((f3_insert_lp tkv opv shv wyv bdv rs x n ch lst pl rov).2.1)), (5, .int (nI ((f3_insert_lp tkv opv shv wyv bdv rs x n ch lst pl rov).2.2.1)))] [] 61) → GZ p l e R s m args below meth c 8 D A cells slots Q (wM h ad cI cJ cZ thr sn tkv opv shv ldv lim wyv bdv isr rn rdv fz icv exa fr fev eav rs rov) [(0, .ref h), (1, .int (nI x)), (2, .int ch), (3, .long lst), (5, .int (nI pl))] [] 10 := by
  intro n
  induction n with
  | zero =>
    intro ch lst pl rov hme hpl hch hro hx
    refine gz_iload C 4 dX3_insert_10 rfl ?_
    refine gz_aload_n C 0 dX3_insert_12 rfl ?_
    refine gz_get (ci := 4) C iwX3 0 rfl rfl 18 (by decide) wk_398 rfl rfl dX3_insert_13 ?_
    refine gz_ncmp_gt C 61 (by omega) (by omega) dX3_insert_16 (by decide) (fun h_1 => ?_) (fun h_1 => ?_)
    · skip
      exact gz_lv [0, 1, 2, 3, 4] rfl (hx hme hpl hch hro)
    · have g_1 : ¬ (rs < pl) := (Nat.not_lt.mpr h_1)
      exfalso; omega
  | succ n ih =>
    intro ch lst pl rov hme hpl hch hro hx
    refine gz_iload C 4 dX3_insert_10 rfl ?_
    refine gz_aload_n C 0 dX3_insert_12 rfl ?_
    refine gz_get (ci := 4) C iwX3 0 rfl rfl 18 (by decide) wk_398 rfl rfl dX3_insert_13 ?_
    refine gz_ncmp_gt C 61 (by omega) (by omega) dX3_insert_16 (by decide) (fun h_1 => ?_) (fun h_1 => ?_)
    · skip
      exfalso; omega
    · have g_1 : ¬ (rs < pl) := (Nat.not_lt.mpr h_1)
      refine gz_aload_n C 0 dX3_insert_19 rfl ?_
      refine gz_iload C 4 dX3_insert_20 rfl ?_
      refine gz_iload_n C 1 dX3_insert_22 rfl ?_
      refine gz_callV (wr := []) (n := 2) (ws2 := (wM h ad cI cJ cZ thr sn tkv opv shv ldv lim wyv bdv isr rn rdv fz icv exa fr fev eav (f3_putIn_rs rs) (f3_putIn_rov rs rov pl x))) (st2 := []) (cells2 := cells) (slots2 := slots) (ci := 4) C (kX3_putIn l D h ad cI cJ cZ thr sn tkv opv shv ldv lim wyv bdv isr rn rdv fz icv exa fr fev eav rs rov pl x (by first | assumption | omega) (by first | assumption | omega)) (WB_V wk_502 wk_504 ws_25 wk_4 wk_505) (by decide +kernel) ⟨⟨rfl, rfl⟩, Nat.le_trans (by decide) hR.1, Nat.le_trans (by decide) hR.2⟩ [0, 1, 2, 3, 4, 5, 6, 7, 8, 9, 10, 11] [] [0, 1, 2] rfl rfl rfl (by decide) rfl 0 rfl rfl rfl rfl (Nat.le_of_ble_eq_true rfl) dX3_insert_23 hce rfl rfl rfl ?_
      refine gz_aload_n C 0 dX3_insert_26 rfl ?_
      refine gz_callV (wr := []) (n := 0) (ws2 := (wM h ad cI cJ cZ thr sn tkv opv shv ldv lim wyv bdv isr rn rdv fz icv exa fr fev eav (f3_putIn_rs rs) (f3_putIn_rov rs rov pl x))) (st2 := [.long (f3_measure tkv opv shv wyv bdv (f3_putIn_rs rs) (f3_putIn_rov rs rov pl x))]) (cells2 := cells) (slots2 := slots) (ci := 4) C (kX3_measure l D h ad cI cJ cZ thr sn tkv opv shv ldv lim wyv bdv isr rn rdv fz icv exa fr fev eav (f3_putIn_rs rs) (f3_putIn_rov rs rov pl x) (by show rs + 1 ≤ 20; omega) (q3_putIn_le (by omega) hxx hro)) (WB_V wk_506 wk_508 ws_26 wk_4 wk_509) (by decide +kernel) ⟨⟨rfl, rfl⟩, Nat.le_trans (by decide) hR.1, Nat.le_trans (by decide) hR.2⟩ [0, 1, 2, 3, 4, 5, 6, 7, 8, 9, 10, 11] [] [0, 1, 2] rfl rfl rfl (by decide) rfl 0 rfl rfl rfl rfl (Nat.le_of_ble_eq_true rfl) dX3_insert_27 hce rfl rfl rfl ?_
      refine gz_lstore (lv2 := [(6, .long (f3_measure tkv opv shv wyv bdv (f3_putIn_rs rs) (f3_putIn_rov rs rov pl x))), (0, .ref h), (1, .int (nI x)), (2, .int ch), (3, .long lst), (5, .int (nI pl))]) C dX3_insert_30 (by decide) rfl ?_
      refine gz_aload_n C 1 dX3_insert_32 rfl ?_
      refine gz_iload C 5 dX3_insert_33 rfl ?_
      refine gz_callV (wr := []) (n := 1) (ws2 := (wM h ad cI cJ cZ thr sn tkv opv shv ldv lim wyv bdv isr rn rdv fz icv exa fr fev eav (f3_takeOut_rs (f3_putIn_rs rs)) (f3_takeOut_rov (f3_putIn_rs rs) (f3_putIn_rov rs rov pl x) pl))) (st2 := []) (cells2 := cells) (slots2 := slots) (ci := 4) C (kX3_takeOut l D h ad cI cJ cZ thr sn tkv opv shv ldv lim wyv bdv isr rn rdv fz icv exa fr fev eav (f3_putIn_rs rs) (f3_putIn_rov rs rov pl x) pl (by show rs + 1 ≤ 21; omega) (by show pl < rs + 1; omega)) (WB_V wk_511 wk_513 ws_27 wk_4 wk_514) (by decide +kernel) ⟨⟨rfl, rfl⟩, Nat.le_trans (by decide) hR.1, Nat.le_trans (by decide) hR.2⟩ [0, 1, 2, 3, 4, 5, 6, 7, 8, 9, 10, 11] [] [0, 1, 2] rfl rfl rfl (by decide) rfl 0 rfl rfl rfl rfl (Nat.le_of_ble_eq_true rfl) dX3_insert_35 hce rfl rfl rfl ?_
      refine gz_wse (ws2 := (wM h ad cI cJ cZ thr sn tkv opv shv ldv lim wyv bdv isr rn rdv fz icv exa fr fev eav rs (f3_takeOut_rov (f3_putIn_rs rs) (f3_putIn_rov rs rov pl x) pl))) rfl ?_
      refine gz_iload_n C 3 dX3_insert_38 rfl ?_
      refine gz_J (ws2 := (wM h ad cI cJ cZ thr sn tkv opv shv ldv lim wyv bdv isr rn rdv fz icv exa fr fev eav rs (f3_takeOut_rov (f3_putIn_rs rs) (f3_putIn_rov rs rov pl x) pl))) (lv2 := [(3, .long ((if ch < 0 then f3_measure tkv opv shv wyv bdv (f3_putIn_rs rs) (f3_putIn_rov rs rov pl x) else (if lst ≤ (f3_measure tkv opv shv wyv bdv (f3_putIn_rs rs) (f3_putIn_rov rs rov pl x)) then lst else f3_measure tkv opv shv wyv bdv (f3_putIn_rs rs) (f3_putIn_rov rs rov pl x))))), (2, .int ((if ch < 0 then nI pl else (if lst ≤ (f3_measure tkv opv shv wyv bdv (f3_putIn_rs rs) (f3_putIn_rov rs rov pl x)) then ch else nI pl)))), (6, .long (f3_measure tkv opv shv wyv bdv (f3_putIn_rs rs) (f3_putIn_rov rs rov pl x))), (0, .ref h), (1, .int (nI x)), (5, .int (nI pl))]) (st2 := []) (pc2 := 55) ?_ (fun J_2 => ?_)
      rotate_left
      · refine gz_if_lt C 49 dX3_insert_39 (by decide) (fun h_2 => ?_) (fun h_2 => ?_)
        · skip
          refine gz_iload C 5 dX3_insert_49 rfl ?_
          refine gz_istore_n (lv2 := [(2, .int (nI pl)), (6, .long (f3_measure tkv opv shv wyv bdv (f3_putIn_rs rs) (f3_putIn_rov rs rov pl x))), (0, .ref h), (1, .int (nI x)), (3, .long lst), (5, .int (nI pl))]) C dX3_insert_51 (by decide) rfl ?_
          refine gz_lload C 1 dX3_insert_52 rfl ?_
          refine gz_lstore_n (lv2 := [(3, .long (f3_measure tkv opv shv wyv bdv (f3_putIn_rs rs) (f3_putIn_rov rs rov pl x))), (2, .int (nI pl)), (6, .long (f3_measure tkv opv shv wyv bdv (f3_putIn_rs rs) (f3_putIn_rov rs rov pl x))), (0, .ref h), (1, .int (nI x)), (5, .int (nI pl))]) C dX3_insert_54 (by decide) rfl ?_
          simp only [if_pos h_2] at J_2 ⊢
          exact gz_lv [0, 1, 2, 3, 4, 5] rfl J_2
        · have g_2 : ¬ (ch < 0) := h_2
          refine gz_lload C 0 dX3_insert_42 rfl ?_
          refine gz_lload_n C 4 dX3_insert_44 rfl ?_
          refine gz_J (ws2 := (wM h ad cI cJ cZ thr sn tkv opv shv ldv lim wyv bdv isr rn rdv fz icv exa fr fev eav rs (f3_takeOut_rov (f3_putIn_rs rs) (f3_putIn_rov rs rov pl x) pl))) (lv2 := [(6, .long (f3_measure tkv opv shv wyv bdv (f3_putIn_rs rs) (f3_putIn_rov rs rov pl x))), (0, .ref h), (1, .int (nI x)), (2, .int ((if lst ≤ (f3_measure tkv opv shv wyv bdv (f3_putIn_rs rs) (f3_putIn_rov rs rov pl x)) then ch else nI pl))), (3, .long ((if lst ≤ (f3_measure tkv opv shv wyv bdv (f3_putIn_rs rs) (f3_putIn_rov rs rov pl x)) then lst else f3_measure tkv opv shv wyv bdv (f3_putIn_rs rs) (f3_putIn_rov rs rov pl x)))), (5, .int (nI pl))]) (st2 := []) (pc2 := 55) ?_ (fun J_3 => ?_)
          rotate_left
          · refine gz_lcmp_ge C 55 dX3_insert_45 dX3_insert_46 (by decide) (fun h_3 => ?_) (fun h_3 => ?_)
            · skip
              simp only [if_pos h_3] at J_3 ⊢
              exact gz_lv [0, 1, 2, 3, 4, 5] rfl J_3
            · have g_3 : ¬ (lst ≤ (f3_measure tkv opv shv wyv bdv (f3_putIn_rs rs) (f3_putIn_rov rs rov pl x))) := h_3
              refine gz_iload C 5 dX3_insert_49 rfl ?_
              refine gz_istore_n (lv2 := [(2, .int (nI pl)), (6, .long (f3_measure tkv opv shv wyv bdv (f3_putIn_rs rs) (f3_putIn_rov rs rov pl x))), (0, .ref h), (1, .int (nI x)), (3, .long lst), (5, .int (nI pl))]) C dX3_insert_51 (by decide) rfl ?_
              refine gz_lload C 1 dX3_insert_52 rfl ?_
              refine gz_lstore_n (lv2 := [(3, .long (f3_measure tkv opv shv wyv bdv (f3_putIn_rs rs) (f3_putIn_rov rs rov pl x))), (2, .int (nI pl)), (6, .long (f3_measure tkv opv shv wyv bdv (f3_putIn_rs rs) (f3_putIn_rov rs rov pl x))), (0, .ref h), (1, .int (nI x)), (5, .int (nI pl))]) C dX3_insert_54 (by decide) rfl ?_
              simp only [if_neg g_3] at J_3 ⊢
              exact gz_lv [2, 3, 4, 1, 0, 5] rfl J_3
          simp only [if_neg g_2] at J_2 ⊢
          exact gz_lv [4, 3, 0, 1, 2, 5] rfl J_2
      refine gz_iinc (v := nI (pl + 1)) (lv2 := [(5, .int (nI (pl + 1))), (3, .long ((if ch < 0 then f3_measure tkv opv shv wyv bdv (f3_putIn_rs rs) (f3_putIn_rov rs rov pl x) else (if lst ≤ (f3_measure tkv opv shv wyv bdv (f3_putIn_rs rs) (f3_putIn_rov rs rov pl x)) then lst else f3_measure tkv opv shv wyv bdv (f3_putIn_rs rs) (f3_putIn_rov rs rov pl x))))), (2, .int ((if ch < 0 then nI pl else (if lst ≤ (f3_measure tkv opv shv wyv bdv (f3_putIn_rs rs) (f3_putIn_rov rs rov pl x)) then ch else nI pl)))), (6, .long (f3_measure tkv opv shv wyv bdv (f3_putIn_rs rs) (f3_putIn_rov rs rov pl x))), (0, .ref h), (1, .int (nI x))]) (k := 5) C dX3_insert_55 rfl (nI_add _ 1) (by decide) rfl ?_
      refine gz_goto C 10 dX3_insert_58 (by decide) ?_
      refine gz_lv [4, 5, 2, 1, 0] rfl ?_
      simp only [f3_insert_lp, if_neg g_1] at hx
      exact ih ((if ch < 0 then nI pl else (if lst ≤ (f3_measure tkv opv shv wyv bdv (f3_putIn_rs rs) (f3_putIn_rov rs rov pl x)) then ch else nI pl))) ((if ch < 0 then f3_measure tkv opv shv wyv bdv (f3_putIn_rs rs) (f3_putIn_rov rs rov pl x) else (if lst ≤ (f3_measure tkv opv shv wyv bdv (f3_putIn_rs rs) (f3_putIn_rov rs rov pl x)) then lst else f3_measure tkv opv shv wyv bdv (f3_putIn_rs rs) (f3_putIn_rov rs rov pl x)))) (pl + 1) (f3_takeOut_rov (f3_putIn_rs rs) (f3_putIn_rov rs rov pl x) pl) (by omega) (by omega) (q3_ch hch hpl (by omega) (by omega)) (q3_pt_le (by omega) hxx hro) hx

def f3_insert (tkv : Nat → Int64) (opv : Nat → Int64) (shv : Nat → Int64) (wyv : Nat → Int64) (bdv : Nat → Bool) (fz : Nat) (rs : Nat) (rov : Nat → Nat) (x : Nat) : Int32 := nI (cl ((f3_insert_lp tkv opv shv wyv bdv rs x (rs + 1 - fz) ((-1)) 0 fz rov).1))
def f3_insert_rs (rs : Nat) : Nat := f3_putIn_rs rs
def f3_insert_rov (tkv : Nat → Int64) (opv : Nat → Int64) (shv : Nat → Int64) (wyv : Nat → Int64) (bdv : Nat → Bool) (fz : Nat) (rs : Nat) (rov : Nat → Nat) (x : Nat) : Nat → Nat := f3_putIn_rov rs ((f3_insert_lp tkv opv shv wyv bdv rs x (rs + 1 - fz) ((-1)) 0 fz rov).2.2.2) (cl ((f3_insert_lp tkv opv shv wyv bdv rs x (rs + 1 - fz) ((-1)) 0 fz rov).1)) x
set_option maxRecDepth 100000 in
set_option maxHeartbeats 4000000 in
theorem kX3_insert (l : Launch) (D : va_G) (h : Nat) (ad : Nat → Nat) (cI : ClassId) (cJ : ClassId) (cZ : ClassId) (thr : Int32) (sn : Nat) (tkv : Nat → Int64) (opv : Nat → Int64) (shv : Nat → Int64) (ldv : Nat → Int32) (lim : Int32) (wyv : Nat → Int64) (bdv : Nat → Bool) (isr : Bool) (rn : Nat) (rdv : Nat → Nat) (fz : Nat) (icv : Nat → Nat) (exa : Bool) (fr : Nat) (fev : Nat → Nat) (eav : Nat → Int64) (rs : Nat) (rov : Nat → Nat) (x : Nat) (hrs : rs ≤ 19) (hfz : fz ≤ rs) (hxx : x ≤ 20) (hro : ∀ k, k < rs → rov k ≤ 20) : gz_M l yX3_insert cX3_insert 8 (some .int) ({ frames := 1, cells := 0, slots := 0, locals := 29 } : Room) D [(cI, .int), (cJ, .long), (cZ, .boolean)] [.ref h, .int (nI x)] (wM h ad cI cJ cZ thr sn tkv opv shv ldv lim wyv bdv isr rn rdv fz icv exa fr fev eav rs rov) (some (.int (f3_insert tkv opv shv wyv bdv fz rs rov x))) (wM h ad cI cJ cZ thr sn tkv opv shv ldv lim wyv bdv isr rn rdv fz icv exa fr fev eav (f3_insert_rs rs) (f3_insert_rov tkv opv shv wyv bdv fz rs rov x)) 0 0 := by
  refine gz_met l (by decide) (Nat.le_of_ble_eq_true rfl) [(0, .ref h), (1, .int (nI x))] rfl ?_
  intro sz p e s m args below meth c C hr hk hnm
  have C : gz_C p s m args c cX3_insert 8 RX3 D [(cI, .int), (cJ, .long), (cZ, .boolean)] (va_A (wM h ad cI cJ cZ thr sn tkv opv shv ldv lim wyv bdv isr rn rdv fz icv exa fr fev eav rs rov) sz) := C
  refine gz_iconst (v := ((-1))) C dX3_insert_0 (by decide) ?_
  refine gz_istore_n (lv2 := [(2, .int ((-1))), (0, .ref h), (1, .int (nI x))]) C dX3_insert_1 (by decide) rfl ?_
  refine gz_lconst (v := 0) C dX3_insert_2 (by decide) ?_
  refine gz_lstore_n (lv2 := [(3, .long 0), (2, .int ((-1))), (0, .ref h), (1, .int (nI x))]) C dX3_insert_3 (by decide) rfl ?_
  refine gz_aload_n C 2 dX3_insert_4 rfl ?_
  refine gz_get (ci := 4) C iwX3 0 rfl rfl 12 (by decide) wk_392 rfl rfl dX3_insert_5 ?_
  refine gz_istore (lv2 := [(5, .int (nI fz)), (3, .long 0), (2, .int ((-1))), (0, .ref h), (1, .int (nI x))]) C dX3_insert_8 (by decide) rfl ?_
  refine gz_lv (lv2 := [(0, .ref h), (1, .int (nI x)), (2, .int ((-1))), (3, .long 0), (5, .int (nI fz))]) [3, 4, 2, 1, 0] rfl ?_
  refine lX3_insert_lp h ad cI cJ cZ thr sn tkv opv shv ldv lim wyv bdv isr rn rdv fz icv exa fr fev eav rs x (by first | assumption | omega) (by first | assumption | omega) (by first | assumption | omega) ⟨Nat.le_of_ble_eq_true rfl, Nat.le_of_ble_eq_true rfl⟩ ⟨Nat.zero_le _, Nat.zero_le _⟩ C (rs + 1 - fz) ((-1)) 0 fz rov (by omega) (by first | assumption | omega) (Or.inl ⟨by decide, rfl⟩) (by first | assumption | omega) ?_
  intro zme_lp zhpl_lp zhch_lp zhro_lp
  have hgd : q3_good fz rs ((f3_insert_lp tkv opv shv wyv bdv rs x (rs + 1 - fz) ((-1)) 0 fz rov).1) := by
    rcases zhch_lp with z | z
    · exact absurd z.2 (by omega)
    · exact z
  obtain ⟨hg1, hg2, hg3⟩ := hgd
  refine gz_lve (lv2 := [(0, .ref h), (1, .int (nI x)), (2, .int (nI (cl ((f3_insert_lp tkv opv shv wyv bdv rs x (rs + 1 - fz) ((-1)) 0 fz rov).1)))), (3, .long ((f3_insert_lp tkv opv shv wyv bdv rs x (rs + 1 - fz) ((-1)) 0 fz rov).2.1)), (5, .int (nI ((f3_insert_lp tkv opv shv wyv bdv rs x (rs + 1 - fz) ((-1)) 0 fz rov).2.2.1)))]) (by rw [← hg1]) ?_
  refine gz_aload_n C 0 dX3_insert_61 rfl ?_
  refine gz_iload_n C 2 dX3_insert_62 rfl ?_
  refine gz_iload_n C 1 dX3_insert_63 rfl ?_
  refine gz_callV (wr := []) (n := 2) (ws2 := (wM h ad cI cJ cZ thr sn tkv opv shv ldv lim wyv bdv isr rn rdv fz icv exa fr fev eav (f3_putIn_rs rs) (f3_putIn_rov rs ((f3_insert_lp tkv opv shv wyv bdv rs x (rs + 1 - fz) ((-1)) 0 fz rov).2.2.2) (cl ((f3_insert_lp tkv opv shv wyv bdv rs x (rs + 1 - fz) ((-1)) 0 fz rov).1)) x))) (st2 := []) (cells2 := 0) (slots2 := 0) (ci := 4) C (kX3_putIn l D h ad cI cJ cZ thr sn tkv opv shv ldv lim wyv bdv isr rn rdv fz icv exa fr fev eav rs ((f3_insert_lp tkv opv shv wyv bdv rs x (rs + 1 - fz) ((-1)) 0 fz rov).2.2.2) (cl ((f3_insert_lp tkv opv shv wyv bdv rs x (rs + 1 - fz) ((-1)) 0 fz rov).1)) x (by first | assumption | omega) (by first | assumption | omega)) (WB_V wk_502 wk_504 ws_25 wk_4 wk_505) (by decide +kernel) ⟨⟨rfl, rfl⟩, Nat.le_of_ble_eq_true rfl, Nat.le_of_ble_eq_true rfl⟩ [0, 1, 2, 3, 4, 5, 6, 7, 8, 9, 10, 11] [] [0, 1, 2] rfl rfl rfl (by decide) rfl 0 rfl rfl rfl rfl (Nat.le_of_ble_eq_true rfl) dX3_insert_64 ⟨Nat.zero_le _, Nat.zero_le _⟩ rfl rfl rfl ?_
  refine gz_iload_n C 2 dX3_insert_67 rfl ?_
  exact gz_iret C hr hk (by first | rfl | (simp only [f3_insert, f3_insert_rs, f3_insert_rov]) | (simp only [f3_insert, f3_insert_rs, f3_insert_rov]; rfl)) (by first | rfl | (simp only [f3_insert, f3_insert_rs, f3_insert_rov]) | (simp only [f3_insert, f3_insert_rs, f3_insert_rov]; rfl)) (Nat.le_refl _) (Nat.le_refl _) dX3_insert_68

