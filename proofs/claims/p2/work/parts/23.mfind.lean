def q3_fit (tkv opv shv wyv : Nat → Int64) (bdv : Nat → Bool) (fev : Nat → Nat) (eav : Nat → Int64) (ls se aa j : Nat) : Prop := ls / 2 ^ j % 2 = 1 ∧ f3_wellDone tkv opv shv wyv bdv (fev j) (fev aa) (eav (11 * ls + j)) = eav (11 * se + aa)
def q3_clr (se a : Nat) : Nat := se &&& (2 ^ a ^^^ 4294967295)
theorem q3_clr_le (se a : Nat) : q3_clr se a ≤ se := Nat.and_le_left
def q3_av (fr : Nat) (P : Nat → Prop) (z : Int32) : Prop := z < 0 ∨ (z = nI (cl z) ∧ cl z < fr ∧ P (cl z))
theorem q3_av_n {fr k : Nat} {P : Nat → Prop} (hk : k < fr) (hf : fr ≤ 20) (h : P k) : q3_av fr P (nI k) := by
  right
  rw [cl_nI (by omega)]
  exact ⟨rfl, hk, h⟩
theorem q3_av_s {fr k : Nat} {P : Nat → Prop} {z : Int32} {t fi N : Int64} (h : q3_av fr P z) (hk : k < fr) (hf : fr ≤ 20) (hP : t < N → P k) : q3_av fr P (if N ≤ t then z else (if fi < t then z else nI k)) := by
  split
  · exact h
  · split
    · exact h
    · rename_i a b
      exact q3_av_n hk hf (hP (Int64.not_le.mp a))
theorem q3_bfs {fr v : Nat} {P : Nat → Prop} {z : Int32} {b : Bool} (h : q3_av fr P z) (hk : v < fr) (hf : fr ≤ 20) (hb : b = true → P v) : q3_av fr P (if b = true then nI v else z) := by
  split
  · rename_i e; exact q3_av_n hk hf (hb e)
  · exact h
theorem q3_bcs {fr v : Nat} {P : Nat → Prop} {z : Int32} {b : Bool} (h : ∀ j, v ≤ j → j < fr → P j → ¬ z < 0) (hv : 0 < v) (hk : v - 1 < fr) (hf : fr ≤ 20) (hb : P (v - 1) → b = true) : ∀ j, v - 1 ≤ j → j < fr → P j → ¬ (if b = true then nI (v - 1) else z) < 0 := by
  intro j h1 h2 h3
  split
  · exact nI_pos (by omega)
  · rename_i e
    by_cases hj : j = v - 1
    · subst hj; exact absurd (hb h3) e
    · exact h j (by omega) h2 h3
theorem q3_b2 {c1 c2 : Prop} [Decidable c1] [Decidable c2] : (if c1 then (if c2 then true else false) else false) = true ↔ c1 ∧ c2 := by
  by_cases h1 : c1 <;> by_cases h2 : c2 <;> simp [h1, h2]

def f3_findExact_l1 (tkv : Nat → Int64) (opv : Nat → Int64) (shv : Nat → Int64) (wyv : Nat → Int64) (bdv : Nat → Bool) (icv : Nat → Nat) : Nat → Int64 → Nat → Nat → (Nat → Nat) → Int64 × Nat × Nat × (Nat → Nat)
  | 0, ck, la, k, rov => (ck, la, k, rov)
  | n + 1, ck, la, k, rov => f3_findExact_l1 tkv opv shv wyv bdv icv n (f3_wellDone tkv opv shv wyv bdv la (icv k) ck) (icv k) (k + 1) (va_up rov k (icv k))
set_option maxRecDepth 100000 in
set_option maxHeartbeats 4000000 in
theorem lX3_findExact_l1 {p : Program} {l : Launch} {e : Env} {R : Room} {s : State} {m : MethodId} {args : Array Value} {below : List Frame} {meth : Method} {c : Code} {cells slots : Nat} {Q : State → Prop} {A : Nat → Prop} {D : va_G} (h : Nat) (ad : Nat → Nat) (cI : ClassId) (cJ : ClassId) (cZ : ClassId) (thr : Int32) (sn : Nat) (tkv : Nat → Int64) (opv : Nat → Int64) (shv : Nat → Int64) (ldv : Nat → Int32) (lim : Int32) (wyv : Nat → Int64) (bdv : Nat → Bool) (isr : Bool) (rn : Nat) (rdv : Nat → Nat) (fz : Nat) (icv : Nat → Nat) (exa : Bool) (fr : Nat) (fev : Nat → Nat) (eav : Nat → Int64) (rs : Nat) (hfz : fz ≤ 20) (hic : ∀ k, k < fz → icv k ≤ 20) (hR : 1 ≤ R.frames ∧ 26 ≤ R.locals) (hce : cells ≤ R.cells ∧ slots ≤ R.slots) (C : gz_C p s m args c cX3_findExact 13 RX3 D [(cI, .int), (cJ, .long), (cZ, .boolean)] A) : ∀ (n : Nat) (ck : Int64) (la : Nat) (k : Nat) (rov : Nat → Nat), (k + n = fz) → (la ≤ 20) → ((((f3_findExact_l1 tkv opv shv wyv bdv icv n ck la k rov).2.2.1) + 0 = fz) → (((f3_findExact_l1 tkv opv shv wyv bdv icv n ck la k rov).2.1) ≤ 20) → GZ p l e R s m args below meth c 13 D A cells slots Q (wM h ad cI cJ cZ thr sn tkv opv shv ldv lim wyv bdv isr rn rdv fz icv exa fr fev eav rs ((f3_findExact_l1 tkv opv shv wyv bdv icv n ck la k rov).2.2.2)) [(0, .ref h), (1, .long ((f3_findExact_l1 tkv opv shv wyv bdv icv n ck la k rov).1)), (3, .int (nI ((f3_findExact_l1 tkv opv shv wyv bdv icv n ck la k rov).2.1))), (4, .int (nI ((f3_findExact_l1 tkv opv shv wyv bdv icv n ck la k rov).2.2.1)))] [] 58) → GZ p l e R s m args below meth c 13 D A cells slots Q (wM h ad cI cJ cZ thr sn tkv opv shv ldv lim wyv bdv isr rn rdv fz icv exa fr fev eav rs rov) [(0, .ref h), (1, .long ck), (3, .int (nI la)), (4, .int (nI k))] [] 7 := by
  intro n
  induction n with
  | zero =>
    intro ck la k rov hme hla hx
    refine gz_iload C 3 dX3_findExact_7 rfl ?_
    refine gz_aload_n C 0 dX3_findExact_9 rfl ?_
    refine gz_get (ci := 4) C iwX3 0 rfl rfl 12 (by decide) wk_392 rfl rfl dX3_findExact_10 ?_
    refine gz_ncmp_ge C 58 (by omega) (by omega) dX3_findExact_13 (by decide) (fun h_1 => ?_) (fun h_1 => ?_)
    · skip
      exact gz_lv [0, 1, 2, 3] rfl (hx hme hla)
    · have g_1 : ¬ (fz ≤ k) := (Nat.not_le.mpr h_1)
      exfalso; omega
  | succ n ih =>
    intro ck la k rov hme hla hx
    refine gz_iload C 3 dX3_findExact_7 rfl ?_
    refine gz_aload_n C 0 dX3_findExact_9 rfl ?_
    refine gz_get (ci := 4) C iwX3 0 rfl rfl 12 (by decide) wk_392 rfl rfl dX3_findExact_10 ?_
    refine gz_ncmp_ge C 58 (by omega) (by omega) dX3_findExact_13 (by decide) (fun h_1 => ?_) (fun h_1 => ?_)
    · skip
      exfalso; omega
    · have g_1 : ¬ (fz ≤ k) := (Nat.not_le.mpr h_1)
      have hq := hic k (by omega)
      refine gz_aload_n C 0 dX3_findExact_16 rfl ?_
      refine gz_iload_n C 2 dX3_findExact_17 rfl ?_
      refine gz_aload_n C 0 dX3_findExact_18 rfl ?_
      refine gz_get (ci := 4) C iwX3 0 rfl rfl 13 (by decide) wk_393 rfl rfl dX3_findExact_19 ?_
      refine gz_iload C 3 dX3_findExact_22 rfl ?_
      refine gz_iald C 8 0 rfl rfl (by omega) (by decide) dX3_findExact_24 ?_
      refine gz_lload_n C 1 dX3_findExact_25 rfl ?_
      refine gz_callV (wr := []) (n := 3) (ws2 := (wM h ad cI cJ cZ thr sn tkv opv shv ldv lim wyv bdv isr rn rdv fz icv exa fr fev eav rs rov)) (st2 := [.long (f3_wellDone tkv opv shv wyv bdv la (icv k) ck)]) (cells2 := cells) (slots2 := slots) (ci := 4) C (kX3_wellDone l D h ad cI cJ cZ thr sn tkv opv shv ldv lim wyv bdv isr rn rdv fz icv exa fr fev eav rs rov la (icv k) ck (by first | assumption | omega) (by first | assumption | omega)) (WB_V wk_485 wk_487 ws_21 wk_4 wk_488) (by decide +kernel) ⟨⟨rfl, rfl⟩, Nat.le_trans (by decide) hR.1, Nat.le_trans (by decide) hR.2⟩ [0, 1, 2, 3, 4, 5, 6, 7, 8, 9, 10, 11] [] [0, 1, 2] rfl rfl rfl (by decide) rfl 0 rfl rfl rfl rfl (Nat.le_of_ble_eq_true rfl) dX3_findExact_26 hce rfl rfl rfl ?_
      refine gz_lstore_n (lv2 := [(1, .long (f3_wellDone tkv opv shv wyv bdv la (icv k) ck)), (0, .ref h), (3, .int (nI la)), (4, .int (nI k))]) C dX3_findExact_29 (by decide) rfl ?_
      refine gz_aload_n C 1 dX3_findExact_30 rfl ?_
      refine gz_get (ci := 4) C iwX3 0 rfl rfl 13 (by decide) wk_393 rfl rfl dX3_findExact_31 ?_
      refine gz_iload C 3 dX3_findExact_34 rfl ?_
      refine gz_iald C 8 0 rfl rfl (by omega) (by decide) dX3_findExact_36 ?_
      refine gz_istore_n (lv2 := [(3, .int (nI (icv k))), (1, .long (f3_wellDone tkv opv shv wyv bdv la (icv k) ck)), (0, .ref h), (4, .int (nI k))]) C dX3_findExact_37 (by decide) rfl ?_
      refine gz_aload_n C 2 dX3_findExact_38 rfl ?_
      refine gz_get (ci := 4) C iwX3 0 rfl rfl 19 (by decide) wk_399 rfl rfl dX3_findExact_39 ?_
      refine gz_iload C 3 dX3_findExact_42 rfl ?_
      refine gz_aload_n C 2 dX3_findExact_44 rfl ?_
      refine gz_get (ci := 4) C iwX3 0 rfl rfl 13 (by decide) wk_393 rfl rfl dX3_findExact_45 ?_
      refine gz_iload C 3 dX3_findExact_48 rfl ?_
      refine gz_iald C 8 0 rfl rfl (by omega) (by decide) dX3_findExact_50 ?_
      refine gz_iast (ws2 := (wM h ad cI cJ cZ thr sn tkv opv shv ldv lim wyv bdv isr rn rdv fz icv exa fr fev eav rs (va_up rov k (icv k)))) C 11 0 rfl rfl (by omega) (by decide) rfl dX3_findExact_51 ?_
      refine gz_iinc (v := nI (k + 1)) (lv2 := [(4, .int (nI (k + 1))), (3, .int (nI (icv k))), (1, .long (f3_wellDone tkv opv shv wyv bdv la (icv k) ck)), (0, .ref h)]) (k := 3) C dX3_findExact_52 rfl (nI_add _ 1) (by decide) rfl ?_
      refine gz_goto C 7 dX3_findExact_55 (by decide) ?_
      refine gz_lv [3, 2, 1, 0] rfl ?_
      simp only [f3_findExact_l1, if_neg g_1] at hx
      exact ih (f3_wellDone tkv opv shv wyv bdv la (icv k) ck) (icv k) (k + 1) (va_up rov k (icv k)) (by omega) (by omega) hx

def f3_findExact_l2 (wyv : Nat → Int64) (bdv : Nat → Bool) (fev : Nat → Nat) (eav : Nat → Int64) (se : Nat) : Nat → Int32 → Int64 → Nat → Int32 × Int64 × Nat
  | 0, at_, fi, u => (at_, fi, u)
  | n + 1, at_, fi, u => f3_findExact_l2 wyv bdv fev eav se n ((if 4000000000000000000 ≤ (f3_wellHome wyv bdv (fev (u - 1)) (eav ((11 * se) + (u - 1)))) then at_ else (if fi < (f3_wellHome wyv bdv (fev (u - 1)) (eav ((11 * se) + (u - 1)))) then at_ else nI (u - 1)))) ((if 4000000000000000000 ≤ (f3_wellHome wyv bdv (fev (u - 1)) (eav ((11 * se) + (u - 1)))) then fi else (if fi < (f3_wellHome wyv bdv (fev (u - 1)) (eav ((11 * se) + (u - 1)))) then fi else f3_wellHome wyv bdv (fev (u - 1)) (eav ((11 * se) + (u - 1)))))) ((u - 1))
set_option maxRecDepth 100000 in
set_option maxHeartbeats 4000000 in
theorem lX3_findExact_l2 {p : Program} {l : Launch} {e : Env} {R : Room} {s : State} {m : MethodId} {args : Array Value} {below : List Frame} {meth : Method} {c : Code} {cells slots : Nat} {Q : State → Prop} {A : Nat → Prop} {D : va_G} (h : Nat) (ad : Nat → Nat) (cI : ClassId) (cJ : ClassId) (cZ : ClassId) (thr : Int32) (sn : Nat) (tkv : Nat → Int64) (opv : Nat → Int64) (shv : Nat → Int64) (ldv : Nat → Int32) (lim : Int32) (wyv : Nat → Int64) (bdv : Nat → Bool) (isr : Bool) (rn : Nat) (rdv : Nat → Nat) (fz : Nat) (icv : Nat → Nat) (exa : Bool) (fr : Nat) (fev : Nat → Nat) (eav : Nat → Int64) (rs : Nat) (rov : Nat → Nat) (se : Nat) (hfr : fr ≤ 11) (hfe : ∀ k, k < fr → fev k ≤ 20) (hse : se < 2048) (hR : 1 ≤ R.frames ∧ 23 ≤ R.locals) (hce : cells ≤ R.cells ∧ slots ≤ R.slots) (C : gz_C p s m args c cX3_findExact 13 RX3 D [(cI, .int), (cJ, .long), (cZ, .boolean)] A) : ∀ (n : Nat) (at_ : Int32) (fi : Int64) (u : Nat), (u = n ∧ n ≤ 11) → (u ≤ fr) → (q3_av fr (fun k => f3_wellHome wyv bdv (fev k) (eav (11 * se + k)) < 4000000000000000000) at_) → ((((f3_findExact_l2 wyv bdv fev eav se n at_ fi u).2.2) = 0 ∧ 0 ≤ 11) → (((f3_findExact_l2 wyv bdv fev eav se n at_ fi u).2.2) ≤ fr) → (q3_av fr (fun k => f3_wellHome wyv bdv (fev k) (eav (11 * se + k)) < 4000000000000000000) ((f3_findExact_l2 wyv bdv fev eav se n at_ fi u).1)) → GZ p l e R s m args below meth c 13 D A cells slots Q (wM h ad cI cJ cZ thr sn tkv opv shv ldv lim wyv bdv isr rn rdv fz icv exa fr fev eav rs rov) [(0, .ref h), (4, .int (nI se)), (5, .int ((f3_findExact_l2 wyv bdv fev eav se n at_ fi u).1)), (6, .long ((f3_findExact_l2 wyv bdv fev eav se n at_ fi u).2.1)), (8, .int (nI ((f3_findExact_l2 wyv bdv fev eav se n at_ fi u).2.2) - 1))] [] 198) → GZ p l e R s m args below meth c 13 D A cells slots Q (wM h ad cI cJ cZ thr sn tkv opv shv ldv lim wyv bdv isr rn rdv fz icv exa fr fev eav rs rov) [(0, .ref h), (4, .int (nI se)), (5, .int at_), (6, .long fi), (8, .int (nI u - 1))] [] 136 := by
  intro n
  induction n with
  | zero =>
    intro at_ fi u hme hu hat hx
    refine gz_iload C 4 dX3_findExact_136 rfl ?_
    refine gz_if_lt C 198 dX3_findExact_138 (by decide) (fun h_1 => ?_) (fun h_1 => ?_)
    · skip
      exact gz_lv [0, 1, 2, 3, 4] rfl (hx hme hu hat)
    · have g_1 : ¬ (((nI u - 1)) < 0) := h_1
      exact absurd ((bz_ltz (by omega)).mpr (by omega)) g_1
  | succ n ih =>
    intro at_ fi u hme hu hat hx
    refine gz_iload C 4 dX3_findExact_136 rfl ?_
    refine gz_if_lt C 198 dX3_findExact_138 (by decide) (fun h_1 => ?_) (fun h_1 => ?_)
    · skip
      exact absurd ((bz_ltz (by omega)).mp h_1) (by omega)
    · have g_1 : ¬ (((nI u - 1)) < 0) := h_1
      have hcv := bz_pd (u := u) (by omega)
      refine gz_lve (lv2 := [(0, .ref h), (4, .int (nI se)), (5, .int at_), (6, .long fi), (8, .int (nI (u - 1)))]) (by rw [hcv]) ?_
      have hq := hfe (u - 1) (by omega)
      refine gz_aload_n C 0 dX3_findExact_141 rfl ?_
      refine gz_aload_n C 0 dX3_findExact_142 rfl ?_
      refine gz_get (ci := 4) C iwX3 0 rfl rfl 16 (by decide) wk_396 rfl rfl dX3_findExact_143 ?_
      refine gz_iload C 4 dX3_findExact_146 rfl ?_
      refine gz_iald C 9 0 rfl rfl (by omega) (by decide) dX3_findExact_148 ?_
      refine gz_aload_n C 0 dX3_findExact_149 rfl ?_
      refine gz_get (ci := 4) C iwX3 0 rfl rfl 17 (by decide) wk_397 rfl rfl dX3_findExact_150 ?_
      refine gz_bipush (v := nI 11) C dX3_findExact_153 (by decide) ?_
      refine gz_iload C 1 dX3_findExact_155 rfl ?_
      refine gz_imul (v := nI (11 * se)) C dX3_findExact_157 (pk_mul _ _) ?_
      refine gz_iload C 4 dX3_findExact_158 rfl ?_
      refine gz_iadd (v := nI ((11 * se) + (u - 1))) C dX3_findExact_160 (nI_add _ _) ?_
      refine gz_lald C 10 1 rfl rfl (by omega) (by decide) dX3_findExact_161 ?_
      refine gz_callV (wr := []) (n := 2) (ws2 := (wM h ad cI cJ cZ thr sn tkv opv shv ldv lim wyv bdv isr rn rdv fz icv exa fr fev eav rs rov)) (st2 := [.long (f3_wellHome wyv bdv (fev (u - 1)) (eav ((11 * se) + (u - 1))))]) (cells2 := cells) (slots2 := slots) (ci := 4) C (kX3_wellHome l D h ad cI cJ cZ thr sn tkv opv shv ldv lim wyv bdv isr rn rdv fz icv exa fr fev eav rs rov (fev (u - 1)) (eav ((11 * se) + (u - 1))) (by first | assumption | omega)) (WB_V wk_494 wk_496 ws_23 wk_4 wk_497) (by decide +kernel) ⟨⟨rfl, rfl⟩, Nat.le_trans (by decide) hR.1, Nat.le_trans (by decide) hR.2⟩ [0, 1, 2, 3, 4, 5, 6, 7, 8, 9, 10, 11] [] [0, 1, 2] rfl rfl rfl (by decide) rfl 0 rfl rfl rfl rfl (Nat.le_of_ble_eq_true rfl) dX3_findExact_162 hce rfl rfl rfl ?_
      refine gz_lstore (lv2 := [(9, .long (f3_wellHome wyv bdv (fev (u - 1)) (eav ((11 * se) + (u - 1))))), (0, .ref h), (4, .int (nI se)), (5, .int at_), (6, .long fi), (8, .int (nI (u - 1)))]) C dX3_findExact_165 (by decide) rfl ?_
      refine gz_lload C 0 dX3_findExact_167 rfl ?_
      refine gz_ldc2 (v := 4000000000000000000) C wk_489 dX3_findExact_169 ?_
      refine gz_J (ws2 := (wM h ad cI cJ cZ thr sn tkv opv shv ldv lim wyv bdv isr rn rdv fz icv exa fr fev eav rs rov)) (lv2 := [(9, .long (f3_wellHome wyv bdv (fev (u - 1)) (eav ((11 * se) + (u - 1))))), (0, .ref h), (4, .int (nI se)), (5, .int ((if 4000000000000000000 ≤ (f3_wellHome wyv bdv (fev (u - 1)) (eav ((11 * se) + (u - 1)))) then at_ else (if fi < (f3_wellHome wyv bdv (fev (u - 1)) (eav ((11 * se) + (u - 1)))) then at_ else nI (u - 1))))), (6, .long ((if 4000000000000000000 ≤ (f3_wellHome wyv bdv (fev (u - 1)) (eav ((11 * se) + (u - 1)))) then fi else (if fi < (f3_wellHome wyv bdv (fev (u - 1)) (eav ((11 * se) + (u - 1)))) then fi else f3_wellHome wyv bdv (fev (u - 1)) (eav ((11 * se) + (u - 1))))))), (8, .int (nI (u - 1)))]) (st2 := []) (pc2 := 192) ?_ (fun J_2 => ?_)
      rotate_left
      · refine gz_lcmp_ge C 192 dX3_findExact_172 dX3_findExact_173 (by decide) (fun h_2 => ?_) (fun h_2 => ?_)
        · skip
          simp only [if_pos h_2] at J_2 ⊢
          exact gz_lv [0, 1, 2, 3, 4, 5] rfl J_2
        · have g_2 : ¬ (4000000000000000000 ≤ (f3_wellHome wyv bdv (fev (u - 1)) (eav ((11 * se) + (u - 1))))) := h_2
          refine gz_lload C 0 dX3_findExact_176 rfl ?_
          refine gz_lload C 4 dX3_findExact_178 rfl ?_
          refine gz_J (ws2 := (wM h ad cI cJ cZ thr sn tkv opv shv ldv lim wyv bdv isr rn rdv fz icv exa fr fev eav rs rov)) (lv2 := [(9, .long (f3_wellHome wyv bdv (fev (u - 1)) (eav ((11 * se) + (u - 1))))), (0, .ref h), (4, .int (nI se)), (5, .int ((if fi < (f3_wellHome wyv bdv (fev (u - 1)) (eav ((11 * se) + (u - 1)))) then at_ else nI (u - 1)))), (6, .long ((if fi < (f3_wellHome wyv bdv (fev (u - 1)) (eav ((11 * se) + (u - 1)))) then fi else f3_wellHome wyv bdv (fev (u - 1)) (eav ((11 * se) + (u - 1)))))), (8, .int (nI (u - 1)))]) (st2 := []) (pc2 := 192) ?_ (fun J_3 => ?_)
          rotate_left
          · refine gz_lcmp_gt C 192 dX3_findExact_180 dX3_findExact_181 (by decide) (fun h_3 => ?_) (fun h_3 => ?_)
            · skip
              simp only [if_pos h_3] at J_3 ⊢
              exact gz_lv [0, 1, 2, 3, 4, 5] rfl J_3
            · have g_3 : ¬ (fi < (f3_wellHome wyv bdv (fev (u - 1)) (eav ((11 * se) + (u - 1))))) := h_3
              refine gz_lload C 0 dX3_findExact_184 rfl ?_
              refine gz_lstore (lv2 := [(6, .long (f3_wellHome wyv bdv (fev (u - 1)) (eav ((11 * se) + (u - 1))))), (9, .long (f3_wellHome wyv bdv (fev (u - 1)) (eav ((11 * se) + (u - 1))))), (0, .ref h), (4, .int (nI se)), (5, .int at_), (8, .int (nI (u - 1)))]) C dX3_findExact_186 (by decide) rfl ?_
              refine gz_iload C 5 dX3_findExact_188 rfl ?_
              refine gz_istore (lv2 := [(5, .int (nI (u - 1))), (6, .long (f3_wellHome wyv bdv (fev (u - 1)) (eav ((11 * se) + (u - 1))))), (9, .long (f3_wellHome wyv bdv (fev (u - 1)) (eav ((11 * se) + (u - 1))))), (0, .ref h), (4, .int (nI se)), (8, .int (nI (u - 1)))]) C dX3_findExact_190 (by decide) rfl ?_
              simp only [if_neg g_3] at J_3 ⊢
              exact gz_lv [2, 3, 4, 0, 1, 5] rfl J_3
          simp only [if_neg g_2] at J_2 ⊢
          exact gz_lv [0, 1, 2, 3, 4, 5] rfl J_2
      refine gz_iinc (v := (nI (u - 1) - 1)) (lv2 := [(8, .int (nI (u - 1) - 1)), (9, .long (f3_wellHome wyv bdv (fev (u - 1)) (eav ((11 * se) + (u - 1))))), (0, .ref h), (4, .int (nI se)), (5, .int ((if 4000000000000000000 ≤ (f3_wellHome wyv bdv (fev (u - 1)) (eav ((11 * se) + (u - 1)))) then at_ else (if fi < (f3_wellHome wyv bdv (fev (u - 1)) (eav ((11 * se) + (u - 1)))) then at_ else nI (u - 1))))), (6, .long ((if 4000000000000000000 ≤ (f3_wellHome wyv bdv (fev (u - 1)) (eav ((11 * se) + (u - 1)))) then fi else (if fi < (f3_wellHome wyv bdv (fev (u - 1)) (eav ((11 * se) + (u - 1)))) then fi else f3_wellHome wyv bdv (fev (u - 1)) (eav ((11 * se) + (u - 1)))))))]) (k := 5) C dX3_findExact_192 rfl (bz_dec _) (by decide) rfl ?_
      refine gz_goto C 136 dX3_findExact_195 (by decide) ?_
      refine gz_lv [2, 3, 4, 5, 0] rfl ?_
      simp only [f3_findExact_l2, if_neg g_1] at hx
      exact ih ((if 4000000000000000000 ≤ (f3_wellHome wyv bdv (fev (u - 1)) (eav ((11 * se) + (u - 1)))) then at_ else (if fi < (f3_wellHome wyv bdv (fev (u - 1)) (eav ((11 * se) + (u - 1)))) then at_ else nI (u - 1)))) ((if 4000000000000000000 ≤ (f3_wellHome wyv bdv (fev (u - 1)) (eav ((11 * se) + (u - 1)))) then fi else (if fi < (f3_wellHome wyv bdv (fev (u - 1)) (eav ((11 * se) + (u - 1)))) then fi else f3_wellHome wyv bdv (fev (u - 1)) (eav ((11 * se) + (u - 1)))))) ((u - 1)) (by omega) (by omega) (q3_av_s hat (by omega) (by omega) (fun z => z)) hx

def f3_findExact_l4 (tkv : Nat → Int64) (opv : Nat → Int64) (shv : Nat → Int64) (wyv : Nat → Int64) (bdv : Nat → Bool) (fev : Nat → Nat) (eav : Nat → Int64) (se : Nat) (aa : Nat) (ls : Nat) : Nat → Int32 → Nat → Int32 × Nat
  | 0, bf, v => (bf, v)
  | n + 1, bf, v => f3_findExact_l4 tkv opv shv wyv bdv fev eav se aa ls n ((if ((if ((ls / 2 ^ (v - 1)) % 2) = 1 then (if (f3_wellDone tkv opv shv wyv bdv (fev (v - 1)) (fev aa) (eav ((11 * ls) + (v - 1)))) = (eav ((11 * se) + aa)) then true else false) else false)) = true then nI (v - 1) else bf)) ((v - 1))
set_option maxRecDepth 100000 in
set_option maxHeartbeats 4000000 in
theorem lX3_findExact_l4 {p : Program} {l : Launch} {e : Env} {R : Room} {s : State} {m : MethodId} {args : Array Value} {below : List Frame} {meth : Method} {c : Code} {cells slots : Nat} {Q : State → Prop} {A : Nat → Prop} {D : va_G} (h : Nat) (ad : Nat → Nat) (cI : ClassId) (cJ : ClassId) (cZ : ClassId) (thr : Int32) (sn : Nat) (tkv : Nat → Int64) (opv : Nat → Int64) (shv : Nat → Int64) (ldv : Nat → Int32) (lim : Int32) (wyv : Nat → Int64) (bdv : Nat → Bool) (isr : Bool) (rn : Nat) (rdv : Nat → Nat) (fz : Nat) (icv : Nat → Nat) (exa : Bool) (fr : Nat) (fev : Nat → Nat) (eav : Nat → Int64) (rs : Nat) (rov : Nat → Nat) (se : Nat) (aa : Nat) (pp : Nat) (ls : Nat) (hfr : fr ≤ 11) (hfe : ∀ k, k < fr → fev k ≤ 20) (hse : se < 2048) (hls : ls < 2048) (haa : aa < fr) (hR : 1 ≤ R.frames ∧ 26 ≤ R.locals) (hce : cells ≤ R.cells ∧ slots ≤ R.slots) (C : gz_C p s m args c cX3_findExact 13 RX3 D [(cI, .int), (cJ, .long), (cZ, .boolean)] A) : ∀ (n : Nat) (bf : Int32) (v : Nat), (v = n ∧ n ≤ 11) → (v ≤ fr) → (q3_av fr (q3_fit tkv opv shv wyv bdv fev eav ls se aa) bf) → (∀ j, v ≤ j → j < fr → q3_fit tkv opv shv wyv bdv fev eav ls se aa j → ¬ bf < 0) → ((((f3_findExact_l4 tkv opv shv wyv bdv fev eav se aa ls n bf v).2) = 0 ∧ 0 ≤ 11) → (((f3_findExact_l4 tkv opv shv wyv bdv fev eav se aa ls n bf v).2) ≤ fr) → (q3_av fr (q3_fit tkv opv shv wyv bdv fev eav ls se aa) ((f3_findExact_l4 tkv opv shv wyv bdv fev eav se aa ls n bf v).1)) → (∀ j, ((f3_findExact_l4 tkv opv shv wyv bdv fev eav se aa ls n bf v).2) ≤ j → j < fr → q3_fit tkv opv shv wyv bdv fev eav ls se aa j → ¬ ((f3_findExact_l4 tkv opv shv wyv bdv fev eav se aa ls n bf v).1) < 0) → GZ p l e R s m args below meth c 13 D A cells slots Q (wM h ad cI cJ cZ thr sn tkv opv shv ldv lim wyv bdv isr rn rdv fz icv exa fr fev eav rs rov) [(0, .ref h), (4, .int (nI se)), (5, .int (nI aa)), (8, .int (nI pp)), (9, .int (nI ls)), (10, .int ((f3_findExact_l4 tkv opv shv wyv bdv fev eav se aa ls n bf v).1)), (11, .int (nI ((f3_findExact_l4 tkv opv shv wyv bdv fev eav se aa ls n bf v).2) - 1))] [] 349) → GZ p l e R s m args below meth c 13 D A cells slots Q (wM h ad cI cJ cZ thr sn tkv opv shv ldv lim wyv bdv isr rn rdv fz icv exa fr fev eav rs rov) [(0, .ref h), (4, .int (nI se)), (5, .int (nI aa)), (8, .int (nI pp)), (9, .int (nI ls)), (10, .int bf), (11, .int (nI v - 1))] [] 258 := by
  intro n
  induction n with
  | zero =>
    intro bf v hme hv hbf hbc hx
    refine gz_iload C 6 dX3_findExact_258 rfl ?_
    refine gz_if_lt C 349 dX3_findExact_260 (by decide) (fun h_1 => ?_) (fun h_1 => ?_)
    · skip
      exact gz_lv [0, 1, 2, 3, 4, 5, 6] rfl (hx hme hv hbf hbc)
    · have g_1 : ¬ (((nI v - 1)) < 0) := h_1
      exact absurd ((bz_ltz (by omega)).mpr (by omega)) g_1
  | succ n ih =>
    intro bf v hme hv hbf hbc hx
    refine gz_iload C 6 dX3_findExact_258 rfl ?_
    refine gz_if_lt C 349 dX3_findExact_260 (by decide) (fun h_1 => ?_) (fun h_1 => ?_)
    · skip
      exact absurd ((bz_ltz (by omega)).mp h_1) (by omega)
    · have g_1 : ¬ (((nI v - 1)) < 0) := h_1
      have hcv := bz_pd (u := v) (by omega)
      refine gz_lve (lv2 := [(0, .ref h), (4, .int (nI se)), (5, .int (nI aa)), (8, .int (nI pp)), (9, .int (nI ls)), (10, .int bf), (11, .int (nI (v - 1)))]) (by rw [hcv]) ?_
      have hq := hfe (v - 1) (by omega)
      have hq2 := hfe aa haa
      refine gz_iload C 4 dX3_findExact_263 rfl ?_
      refine gz_iload C 6 dX3_findExact_265 rfl ?_
      refine gz_ishr (v := nI (ls / 2 ^ (v - 1))) C dX3_findExact_267 (bz_shr (by omega) (by omega)) ?_
      refine gz_iconst (v := nI 1) C dX3_findExact_268 (by decide) ?_
      refine gz_iand (v := nI ((ls / 2 ^ (v - 1)) % 2)) C dX3_findExact_269 (bz_and1 _ (Nat.lt_of_le_of_lt (Nat.div_le_self _ _) (by omega))) ?_
      refine gz_iconst (v := nI 1) C dX3_findExact_270 (by decide) ?_
      refine gz_J (ws2 := (wM h ad cI cJ cZ thr sn tkv opv shv ldv lim wyv bdv isr rn rdv fz icv exa fr fev eav rs rov)) (lv2 := [(0, .ref h), (4, .int (nI se)), (5, .int (nI aa)), (8, .int (nI pp)), (9, .int (nI ls)), (10, .int bf), (11, .int (nI (v - 1)))]) (st2 := [.int (nI ((if ((ls / 2 ^ (v - 1)) % 2) = 1 then (if (f3_wellDone tkv opv shv wyv bdv (fev (v - 1)) (fev aa) (eav ((11 * ls) + (v - 1)))) = (eav ((11 * se) + aa)) then 1 else 0) else 0)))]) (pc2 := 327) ?_ (fun J_2 => ?_)
      rotate_left
      · refine gz_ncmp_ne C 326 (by omega) (by omega) dX3_findExact_271 (by decide) (fun h_2 => ?_) (fun h_2 => ?_)
        · have g_2 : ¬ (((ls / 2 ^ (v - 1)) % 2) = 1) := h_2
          refine gz_iconst (v := nI 0) C dX3_findExact_326 (by decide) ?_
          simp only [if_neg g_2] at J_2 ⊢
          exact gz_lv [0, 1, 2, 3, 4, 5, 6] rfl J_2
        · skip
          refine gz_aload_n C 0 dX3_findExact_274 rfl ?_
          refine gz_aload_n C 0 dX3_findExact_275 rfl ?_
          refine gz_get (ci := 4) C iwX3 0 rfl rfl 16 (by decide) wk_396 rfl rfl dX3_findExact_276 ?_
          refine gz_iload C 6 dX3_findExact_279 rfl ?_
          refine gz_iald C 9 0 rfl rfl (by omega) (by decide) dX3_findExact_281 ?_
          refine gz_aload_n C 0 dX3_findExact_282 rfl ?_
          refine gz_get (ci := 4) C iwX3 0 rfl rfl 16 (by decide) wk_396 rfl rfl dX3_findExact_283 ?_
          refine gz_iload C 2 dX3_findExact_286 rfl ?_
          refine gz_iald C 9 0 rfl rfl (by omega) (by decide) dX3_findExact_288 ?_
          refine gz_aload_n C 0 dX3_findExact_289 rfl ?_
          refine gz_get (ci := 4) C iwX3 0 rfl rfl 17 (by decide) wk_397 rfl rfl dX3_findExact_290 ?_
          refine gz_bipush (v := nI 11) C dX3_findExact_293 (by decide) ?_
          refine gz_iload C 4 dX3_findExact_295 rfl ?_
          refine gz_imul (v := nI (11 * ls)) C dX3_findExact_297 (pk_mul _ _) ?_
          refine gz_iload C 6 dX3_findExact_298 rfl ?_
          refine gz_iadd (v := nI ((11 * ls) + (v - 1))) C dX3_findExact_300 (nI_add _ _) ?_
          refine gz_lald C 10 1 rfl rfl (by omega) (by decide) dX3_findExact_301 ?_
          refine gz_callV (wr := []) (n := 3) (ws2 := (wM h ad cI cJ cZ thr sn tkv opv shv ldv lim wyv bdv isr rn rdv fz icv exa fr fev eav rs rov)) (st2 := [.long (f3_wellDone tkv opv shv wyv bdv (fev (v - 1)) (fev aa) (eav ((11 * ls) + (v - 1))))]) (cells2 := cells) (slots2 := slots) (ci := 4) C (kX3_wellDone l D h ad cI cJ cZ thr sn tkv opv shv ldv lim wyv bdv isr rn rdv fz icv exa fr fev eav rs rov (fev (v - 1)) (fev aa) (eav ((11 * ls) + (v - 1))) (by first | assumption | omega) (by first | assumption | omega)) (WB_V wk_485 wk_487 ws_21 wk_4 wk_488) (by decide +kernel) ⟨⟨rfl, rfl⟩, Nat.le_trans (by decide) hR.1, Nat.le_trans (by decide) hR.2⟩ [0, 1, 2, 3, 4, 5, 6, 7, 8, 9, 10, 11] [] [0, 1, 2] rfl rfl rfl (by decide) rfl 0 rfl rfl rfl rfl (Nat.le_of_ble_eq_true rfl) dX3_findExact_302 hce rfl rfl rfl ?_
          refine gz_aload_n C 0 dX3_findExact_305 rfl ?_
          refine gz_get (ci := 4) C iwX3 0 rfl rfl 17 (by decide) wk_397 rfl rfl dX3_findExact_306 ?_
          refine gz_bipush (v := nI 11) C dX3_findExact_309 (by decide) ?_
          refine gz_iload C 1 dX3_findExact_311 rfl ?_
          refine gz_imul (v := nI (11 * se)) C dX3_findExact_313 (pk_mul _ _) ?_
          refine gz_iload C 2 dX3_findExact_314 rfl ?_
          refine gz_iadd (v := nI ((11 * se) + aa)) C dX3_findExact_316 (nI_add _ _) ?_
          refine gz_lald C 10 1 rfl rfl (by omega) (by decide) dX3_findExact_317 ?_
          refine gz_J (ws2 := (wM h ad cI cJ cZ thr sn tkv opv shv ldv lim wyv bdv isr rn rdv fz icv exa fr fev eav rs rov)) (lv2 := [(0, .ref h), (4, .int (nI se)), (5, .int (nI aa)), (8, .int (nI pp)), (9, .int (nI ls)), (10, .int bf), (11, .int (nI (v - 1)))]) (st2 := [.int (nI ((if (f3_wellDone tkv opv shv wyv bdv (fev (v - 1)) (fev aa) (eav ((11 * ls) + (v - 1)))) = (eav ((11 * se) + aa)) then 1 else 0)))]) (pc2 := 327) ?_ (fun J_3 => ?_)
          rotate_left
          · refine gz_lcmp_ne C 326 dX3_findExact_318 dX3_findExact_319 (by decide) (fun h_3 => ?_) (fun h_3 => ?_)
            · have g_3 : ¬ ((f3_wellDone tkv opv shv wyv bdv (fev (v - 1)) (fev aa) (eav ((11 * ls) + (v - 1)))) = (eav ((11 * se) + aa))) := h_3
              refine gz_iconst (v := nI 0) C dX3_findExact_326 (by decide) ?_
              simp only [if_neg g_3] at J_3 ⊢
              exact gz_lv [0, 1, 2, 3, 4, 5, 6] rfl J_3
            · skip
              refine gz_iconst (v := nI 1) C dX3_findExact_322 (by decide) ?_
              refine gz_goto C 327 dX3_findExact_323 (by decide) ?_
              simp only [if_pos h_3] at J_3 ⊢
              exact gz_lv [0, 1, 2, 3, 4, 5, 6] rfl J_3
          simp only [if_pos h_2] at J_2 ⊢
          exact gz_lv [0, 1, 2, 3, 4, 5, 6] rfl J_2
      refine gz_istore (lv2 := [(12, .int (nI ((if ((ls / 2 ^ (v - 1)) % 2) = 1 then (if (f3_wellDone tkv opv shv wyv bdv (fev (v - 1)) (fev aa) (eav ((11 * ls) + (v - 1)))) = (eav ((11 * se) + aa)) then 1 else 0) else 0)))), (0, .ref h), (4, .int (nI se)), (5, .int (nI aa)), (8, .int (nI pp)), (9, .int (nI ls)), (10, .int bf), (11, .int (nI (v - 1)))]) C dX3_findExact_327 (by decide) rfl ?_
      refine gz_iload C 0 dX3_findExact_329 rfl ?_
      refine gz_sw (v := .int (nI ((if ((ls / 2 ^ (v - 1)) % 2) = 1 then (if (f3_wellDone tkv opv shv wyv bdv (fev (v - 1)) (fev aa) (eav ((11 * ls) + (v - 1)))) = (eav ((11 * se) + aa)) then 1 else 0) else 0)))) (w := .int (bI ((if ((ls / 2 ^ (v - 1)) % 2) = 1 then (if (f3_wellDone tkv opv shv wyv bdv (fev (v - 1)) (fev aa) (eav ((11 * ls) + (v - 1)))) = (eav ((11 * se) + aa)) then true else false) else false)))) (by rw [show nI ((if ((ls / 2 ^ (v - 1)) % 2) = 1 then (if (f3_wellDone tkv opv shv wyv bdv (fev (v - 1)) (fev aa) (eav ((11 * ls) + (v - 1)))) = (eav ((11 * se) + aa)) then 1 else 0) else 0)) = bI ((if ((ls / 2 ^ (v - 1)) % 2) = 1 then (if (f3_wellDone tkv opv shv wyv bdv (fev (v - 1)) (fev aa) (eav ((11 * ls) + (v - 1)))) = (eav ((11 * se) + aa)) then true else false) else false)) from (by first | rfl | decide | ((repeat' split) <;> rfl))]) ?_
      refine gz_J (ws2 := (wM h ad cI cJ cZ thr sn tkv opv shv ldv lim wyv bdv isr rn rdv fz icv exa fr fev eav rs rov)) (lv2 := [(12, .int (nI ((if ((ls / 2 ^ (v - 1)) % 2) = 1 then (if (f3_wellDone tkv opv shv wyv bdv (fev (v - 1)) (fev aa) (eav ((11 * ls) + (v - 1)))) = (eav ((11 * se) + aa)) then 1 else 0) else 0)))), (0, .ref h), (4, .int (nI se)), (5, .int (nI aa)), (8, .int (nI pp)), (9, .int (nI ls)), (10, .int bf), (11, .int (nI (v - 1)))]) (st2 := [.int ((if ((if ((ls / 2 ^ (v - 1)) % 2) = 1 then (if (f3_wellDone tkv opv shv wyv bdv (fev (v - 1)) (fev aa) (eav ((11 * ls) + (v - 1)))) = (eav ((11 * se) + aa)) then true else false) else false)) = true then nI (v - 1) else bf))]) (pc2 := 341) ?_ (fun J_4 => ?_)
      rotate_left
      · refine gz_bif_eq C 339 dX3_findExact_331 (by decide) (fun h_4 => ?_) (fun h_4 => ?_)
        · have g_4 : ¬ (((if ((ls / 2 ^ (v - 1)) % 2) = 1 then (if (f3_wellDone tkv opv shv wyv bdv (fev (v - 1)) (fev aa) (eav ((11 * ls) + (v - 1)))) = (eav ((11 * se) + aa)) then true else false) else false)) = true) := (by rw [h_4]; decide)
          refine gz_iload C 6 dX3_findExact_339 rfl ?_
          simp only [if_neg g_4] at J_4 ⊢
          exact gz_lv [0, 1, 2, 3, 4, 5, 6, 7] rfl J_4
        · skip
          refine gz_iload C 7 dX3_findExact_334 rfl ?_
          refine gz_goto C 341 dX3_findExact_336 (by decide) ?_
          simp only [if_pos h_4] at J_4 ⊢
          exact gz_lv [0, 1, 2, 3, 4, 5, 6, 7] rfl J_4
      refine gz_istore (lv2 := [(10, .int ((if ((if ((ls / 2 ^ (v - 1)) % 2) = 1 then (if (f3_wellDone tkv opv shv wyv bdv (fev (v - 1)) (fev aa) (eav ((11 * ls) + (v - 1)))) = (eav ((11 * se) + aa)) then true else false) else false)) = true then nI (v - 1) else bf))), (12, .int (nI ((if ((ls / 2 ^ (v - 1)) % 2) = 1 then (if (f3_wellDone tkv opv shv wyv bdv (fev (v - 1)) (fev aa) (eav ((11 * ls) + (v - 1)))) = (eav ((11 * se) + aa)) then 1 else 0) else 0)))), (0, .ref h), (4, .int (nI se)), (5, .int (nI aa)), (8, .int (nI pp)), (9, .int (nI ls)), (11, .int (nI (v - 1)))]) C dX3_findExact_341 (by decide) rfl ?_
      refine gz_iinc (v := (nI (v - 1) - 1)) (lv2 := [(11, .int (nI (v - 1) - 1)), (10, .int ((if ((if ((ls / 2 ^ (v - 1)) % 2) = 1 then (if (f3_wellDone tkv opv shv wyv bdv (fev (v - 1)) (fev aa) (eav ((11 * ls) + (v - 1)))) = (eav ((11 * se) + aa)) then true else false) else false)) = true then nI (v - 1) else bf))), (12, .int (nI ((if ((ls / 2 ^ (v - 1)) % 2) = 1 then (if (f3_wellDone tkv opv shv wyv bdv (fev (v - 1)) (fev aa) (eav ((11 * ls) + (v - 1)))) = (eav ((11 * se) + aa)) then 1 else 0) else 0)))), (0, .ref h), (4, .int (nI se)), (5, .int (nI aa)), (8, .int (nI pp)), (9, .int (nI ls))]) (k := 7) C dX3_findExact_343 rfl (bz_dec _) (by decide) rfl ?_
      refine gz_goto C 258 dX3_findExact_346 (by decide) ?_
      refine gz_lv [3, 4, 5, 6, 7, 1, 0] rfl ?_
      simp only [f3_findExact_l4, if_neg g_1] at hx
      exact ih ((if ((if ((ls / 2 ^ (v - 1)) % 2) = 1 then (if (f3_wellDone tkv opv shv wyv bdv (fev (v - 1)) (fev aa) (eav ((11 * ls) + (v - 1)))) = (eav ((11 * se) + aa)) then true else false) else false)) = true then nI (v - 1) else bf)) ((v - 1)) (by omega) (by omega) (q3_bfs hbf (by omega) (by omega) (fun z => q3_b2.mp z)) (q3_bcs hbc (by omega) (by omega) (by omega) (fun z => q3_b2.mpr z)) hx

def f3_findExact_l3 (tkv : Nat → Int64) (opv : Nat → Int64) (shv : Nat → Int64) (wyv : Nat → Int64) (bdv : Nat → Bool) (fr : Nat) (fev : Nat → Nat) (eav : Nat → Int64) : Nat → Nat → Int32 → Nat → (Nat → Nat) → Nat × Int32 × Nat × (Nat → Nat)
  | 0, se, at_, u, rov => (se, at_, u, rov)
  | n + 1, se, at_, u, rov => f3_findExact_l3 tkv opv shv wyv bdv fr fev eav n (se &&& ((2 ^ (cl at_)) ^^^ 4294967295)) ((f3_findExact_l4 tkv opv shv wyv bdv fev eav se (cl at_) (se &&& ((2 ^ (cl at_)) ^^^ 4294967295)) fr ((-1)) fr).1) ((u - 1)) (va_up rov (u - 1) (fev (cl at_)))
set_option maxRecDepth 100000 in
set_option maxHeartbeats 4000000 in
theorem lX3_findExact_l3 {p : Program} {l : Launch} {e : Env} {R : Room} {s : State} {m : MethodId} {args : Array Value} {below : List Frame} {meth : Method} {c : Code} {cells slots : Nat} {Q : State → Prop} {A : Nat → Prop} {D : va_G} (h : Nat) (ad : Nat → Nat) (cI : ClassId) (cJ : ClassId) (cZ : ClassId) (thr : Int32) (sn : Nat) (tkv : Nat → Int64) (opv : Nat → Int64) (shv : Nat → Int64) (ldv : Nat → Int32) (lim : Int32) (wyv : Nat → Int64) (bdv : Nat → Bool) (isr : Bool) (rn : Nat) (rdv : Nat → Nat) (fz : Nat) (icv : Nat → Nat) (exa : Bool) (fr : Nat) (fev : Nat → Nat) (eav : Nat → Int64) (rs : Nat) (hfr : fr ≤ 11) (hfe : ∀ k, k < fr → fev k ≤ 20) (V : Nat → Nat → Nat → Prop) (hV1 : ∀ n se a, V (n + 1) se a → a < fr ∧ se < 2 ^ fr ∧ (0 < n → ∃ j, j < fr ∧ q3_fit tkv opv shv wyv bdv fev eav (q3_clr se a) se a j)) (hV2 : ∀ n se a j, V (n + 1) se a → 0 < n → j < fr → q3_fit tkv opv shv wyv bdv fev eav (q3_clr se a) se a j → V n (q3_clr se a) j) (hR : 1 ≤ R.frames ∧ 26 ≤ R.locals) (hce : cells ≤ R.cells ∧ slots ≤ R.slots) (C : gz_C p s m args c cX3_findExact 13 RX3 D [(cI, .int), (cJ, .long), (cZ, .boolean)] A) : ∀ (n : Nat) (se : Nat) (at_ : Int32) (u : Nat) (rov : Nat → Nat), (u = fz + n ∧ u ≤ 20) → (fz < u → at_ = nI (cl at_) ∧ V (u - fz) se (cl at_)) → ((((f3_findExact_l3 tkv opv shv wyv bdv fr fev eav n se at_ u rov).2.2.1) = fz + 0 ∧ ((f3_findExact_l3 tkv opv shv wyv bdv fr fev eav n se at_ u rov).2.2.1) ≤ 20) → (fz < ((f3_findExact_l3 tkv opv shv wyv bdv fr fev eav n se at_ u rov).2.2.1) → ((f3_findExact_l3 tkv opv shv wyv bdv fr fev eav n se at_ u rov).2.1) = nI (cl ((f3_findExact_l3 tkv opv shv wyv bdv fr fev eav n se at_ u rov).2.1)) ∧ V (((f3_findExact_l3 tkv opv shv wyv bdv fr fev eav n se at_ u rov).2.2.1) - fz) ((f3_findExact_l3 tkv opv shv wyv bdv fr fev eav n se at_ u rov).1) (cl ((f3_findExact_l3 tkv opv shv wyv bdv fr fev eav n se at_ u rov).2.1))) → GZ p l e R s m args below meth c 13 D A cells slots Q (wM h ad cI cJ cZ thr sn tkv opv shv ldv lim wyv bdv isr rn rdv fz icv exa fr fev eav rs ((f3_findExact_l3 tkv opv shv wyv bdv fr fev eav n se at_ u rov).2.2.2)) [(0, .ref h), (4, .int (nI ((f3_findExact_l3 tkv opv shv wyv bdv fr fev eav n se at_ u rov).1))), (5, .int ((f3_findExact_l3 tkv opv shv wyv bdv fr fev eav n se at_ u rov).2.1)), (8, .int (nI ((f3_findExact_l3 tkv opv shv wyv bdv fr fev eav n se at_ u rov).2.2.1) - 1))] [] 363) → GZ p l e R s m args below meth c 13 D A cells slots Q (wM h ad cI cJ cZ thr sn tkv opv shv ldv lim wyv bdv isr rn rdv fz icv exa fr fev eav rs rov) [(0, .ref h), (4, .int (nI se)), (5, .int at_), (8, .int (nI u - 1))] [] 213 := by
  intro n
  induction n with
  | zero =>
    intro se at_ u rov hme hat hx
    refine gz_iload C 3 dX3_findExact_213 rfl ?_
    refine gz_aload_n C 0 dX3_findExact_215 rfl ?_
    refine gz_get (ci := 4) C iwX3 0 rfl rfl 12 (by decide) wk_392 rfl rfl dX3_findExact_216 ?_
    refine gz_icmp_lt C 363 dX3_findExact_219 (by decide) (fun h_1 => ?_) (fun h_1 => ?_)
    · skip
      exact gz_lv [0, 1, 2, 3] rfl (hx hme hat)
    · have g_1 : ¬ (((nI u - 1)) < (nI fz)) := h_1
      exact absurd ((bz_ltn (by omega) (by omega)).mpr (by omega)) g_1
  | succ n ih =>
    intro se at_ u rov hme hat hx
    refine gz_iload C 3 dX3_findExact_213 rfl ?_
    refine gz_aload_n C 0 dX3_findExact_215 rfl ?_
    refine gz_get (ci := 4) C iwX3 0 rfl rfl 12 (by decide) wk_392 rfl rfl dX3_findExact_216 ?_
    refine gz_icmp_lt C 363 dX3_findExact_219 (by decide) (fun h_1 => ?_) (fun h_1 => ?_)
    · skip
      exact absurd ((bz_ltn (by omega) (by omega)).mp h_1) (by omega)
    · have g_1 : ¬ (((nI u - 1)) < (nI fz)) := h_1
      have hcv := bz_pd (u := u) (by omega)
      refine gz_lve (lv2 := [(0, .ref h), (4, .int (nI se)), (5, .int at_), (8, .int (nI (u - 1)))]) (by rw [hcv]) ?_
      have hp9 := bz_pow hfr
      obtain ⟨hat1, hat2⟩ := hat (by omega)
      have e9 : u - fz = n + 1 := by omega
      rw [e9] at hat2
      obtain ⟨hv1, hv2, hv3⟩ := hV1 n se (cl at_) hat2
      refine gz_lve (lv2 := [(0, .ref h), (4, .int (nI se)), (5, .int (nI (cl at_))), (8, .int (nI (u - 1)))]) (by rw [← hat1]) ?_
      refine gz_aload_n C 0 dX3_findExact_222 rfl ?_
      refine gz_get (ci := 4) C iwX3 0 rfl rfl 19 (by decide) wk_399 rfl rfl dX3_findExact_223 ?_
      refine gz_iload C 3 dX3_findExact_226 rfl ?_
      refine gz_aload_n C 0 dX3_findExact_228 rfl ?_
      refine gz_get (ci := 4) C iwX3 0 rfl rfl 16 (by decide) wk_396 rfl rfl dX3_findExact_229 ?_
      refine gz_iload C 2 dX3_findExact_232 rfl ?_
      refine gz_iald C 9 0 rfl rfl (by omega) (by decide) dX3_findExact_234 ?_
      refine gz_iast (ws2 := (wM h ad cI cJ cZ thr sn tkv opv shv ldv lim wyv bdv isr rn rdv fz icv exa fr fev eav rs (va_up rov (u - 1) (fev (cl at_))))) C 11 0 rfl rfl (by omega) (by decide) rfl dX3_findExact_235 ?_
      refine gz_iload C 1 dX3_findExact_236 rfl ?_
      refine gz_iconst (v := nI 1) C dX3_findExact_238 (by decide) ?_
      refine gz_iload C 2 dX3_findExact_239 rfl ?_
      refine gz_ishl (v := nI (2 ^ (cl at_))) C dX3_findExact_241 (bz_shl (by omega)) ?_
      refine gz_iconst (v := ((-1))) C dX3_findExact_242 (by decide) ?_
      refine gz_ixor (v := nI ((2 ^ (cl at_)) ^^^ 4294967295)) C dX3_findExact_243 (bz_xm1 _) ?_
      refine gz_iand (v := nI (se &&& ((2 ^ (cl at_)) ^^^ 4294967295))) C dX3_findExact_244 (bz_and _ _) ?_
      refine gz_istore (lv2 := [(9, .int (nI (se &&& ((2 ^ (cl at_)) ^^^ 4294967295)))), (0, .ref h), (4, .int (nI se)), (5, .int (nI (cl at_))), (8, .int (nI (u - 1)))]) C dX3_findExact_245 (by decide) rfl ?_
      refine gz_iconst (v := ((-1))) C dX3_findExact_247 (by decide) ?_
      refine gz_istore (lv2 := [(10, .int ((-1))), (9, .int (nI (se &&& ((2 ^ (cl at_)) ^^^ 4294967295)))), (0, .ref h), (4, .int (nI se)), (5, .int (nI (cl at_))), (8, .int (nI (u - 1)))]) C dX3_findExact_248 (by decide) rfl ?_
      refine gz_aload_n C 2 dX3_findExact_250 rfl ?_
      refine gz_get (ci := 4) C iwX3 0 rfl rfl 15 (by decide) wk_395 rfl rfl dX3_findExact_251 ?_
      refine gz_iconst (v := nI 1) C dX3_findExact_254 (by decide) ?_
      refine gz_isub (v := (nI fr - 1)) C dX3_findExact_255 rfl ?_
      refine gz_istore (lv2 := [(11, .int (nI fr - 1)), (10, .int ((-1))), (9, .int (nI (se &&& ((2 ^ (cl at_)) ^^^ 4294967295)))), (0, .ref h), (4, .int (nI se)), (5, .int (nI (cl at_))), (8, .int (nI (u - 1)))]) C dX3_findExact_256 (by decide) rfl ?_
      refine gz_lv (lv2 := [(0, .ref h), (4, .int (nI se)), (5, .int (nI (cl at_))), (8, .int (nI (u - 1))), (9, .int (nI (se &&& ((2 ^ (cl at_)) ^^^ 4294967295)))), (10, .int ((-1))), (11, .int (nI fr - 1))]) [3, 4, 5, 6, 2, 1, 0] rfl ?_
      refine lX3_findExact_l4 h ad cI cJ cZ thr sn tkv opv shv ldv lim wyv bdv isr rn rdv fz icv exa fr fev eav rs (va_up rov (u - 1) (fev (cl at_))) se (cl at_) (u - 1) (se &&& ((2 ^ (cl at_)) ^^^ 4294967295)) (by first | assumption | omega) (by first | assumption | omega) (by first | assumption | omega) (by have h9 := q3_clr_le se (cl at_); unfold q3_clr at h9; omega) (by first | assumption | omega) ⟨Nat.le_trans (by decide) hR.1, Nat.le_trans (by decide) hR.2⟩ hce C fr ((-1)) fr ⟨rfl, by omega⟩ (by first | assumption | omega) (Or.inl (by decide)) (fun j h1 h2 _ => by omega) ?_
      intro zme_l4 zhv_l4 zhbf_l4 zhbc_l4
      refine gz_iload C 4 dX3_findExact_349 rfl ?_
      refine gz_istore (lv2 := [(4, .int (nI (se &&& ((2 ^ (cl at_)) ^^^ 4294967295)))), (0, .ref h), (5, .int (nI (cl at_))), (8, .int (nI (u - 1))), (9, .int (nI (se &&& ((2 ^ (cl at_)) ^^^ 4294967295)))), (10, .int ((f3_findExact_l4 tkv opv shv wyv bdv fev eav se (cl at_) (se &&& ((2 ^ (cl at_)) ^^^ 4294967295)) fr ((-1)) fr).1)), (11, .int (nI ((f3_findExact_l4 tkv opv shv wyv bdv fev eav se (cl at_) (se &&& ((2 ^ (cl at_)) ^^^ 4294967295)) fr ((-1)) fr).2) - 1))]) C dX3_findExact_351 (by decide) rfl ?_
      refine gz_iload C 5 dX3_findExact_353 rfl ?_
      refine gz_istore (lv2 := [(5, .int ((f3_findExact_l4 tkv opv shv wyv bdv fev eav se (cl at_) (se &&& ((2 ^ (cl at_)) ^^^ 4294967295)) fr ((-1)) fr).1)), (4, .int (nI (se &&& ((2 ^ (cl at_)) ^^^ 4294967295)))), (0, .ref h), (8, .int (nI (u - 1))), (9, .int (nI (se &&& ((2 ^ (cl at_)) ^^^ 4294967295)))), (10, .int ((f3_findExact_l4 tkv opv shv wyv bdv fev eav se (cl at_) (se &&& ((2 ^ (cl at_)) ^^^ 4294967295)) fr ((-1)) fr).1)), (11, .int (nI ((f3_findExact_l4 tkv opv shv wyv bdv fev eav se (cl at_) (se &&& ((2 ^ (cl at_)) ^^^ 4294967295)) fr ((-1)) fr).2) - 1))]) C dX3_findExact_355 (by decide) rfl ?_
      refine gz_iinc (v := (nI (u - 1) - 1)) (lv2 := [(8, .int (nI (u - 1) - 1)), (5, .int ((f3_findExact_l4 tkv opv shv wyv bdv fev eav se (cl at_) (se &&& ((2 ^ (cl at_)) ^^^ 4294967295)) fr ((-1)) fr).1)), (4, .int (nI (se &&& ((2 ^ (cl at_)) ^^^ 4294967295)))), (0, .ref h), (9, .int (nI (se &&& ((2 ^ (cl at_)) ^^^ 4294967295)))), (10, .int ((f3_findExact_l4 tkv opv shv wyv bdv fev eav se (cl at_) (se &&& ((2 ^ (cl at_)) ^^^ 4294967295)) fr ((-1)) fr).1)), (11, .int (nI ((f3_findExact_l4 tkv opv shv wyv bdv fev eav se (cl at_) (se &&& ((2 ^ (cl at_)) ^^^ 4294967295)) fr ((-1)) fr).2) - 1))]) (k := 3) C dX3_findExact_357 rfl (bz_dec _) (by decide) rfl ?_
      refine gz_goto C 213 dX3_findExact_360 (by decide) ?_
      refine gz_lv [3, 2, 1, 0] rfl ?_
      simp only [f3_findExact_l3, if_neg g_1] at hx
      exact ih (se &&& ((2 ^ (cl at_)) ^^^ 4294967295)) ((f3_findExact_l4 tkv opv shv wyv bdv fev eav se (cl at_) (se &&& ((2 ^ (cl at_)) ^^^ 4294967295)) fr ((-1)) fr).1) ((u - 1)) (va_up rov (u - 1) (fev (cl at_))) (by omega) (by
      intro hq
      obtain ⟨j, hj1, hj2⟩ := hv3 (by omega)
      have hb := zhbc_l4 j (by omega) hj1 hj2
      rcases zhbf_l4 with z | z
      · exact absurd z hb
      · obtain ⟨z1, z2, z3⟩ := z
        refine ⟨z1, ?_⟩
        have e : u - 1 - fz = n := by omega
        rw [e]
        exact hV2 n se (cl at_) _ hat2 (by omega) z2 z3) hx

def f3_findExact (sn : Nat) (tkv : Nat → Int64) (opv : Nat → Int64) (shv : Nat → Int64) (wyv : Nat → Int64) (bdv : Nat → Bool) (fz : Nat) (icv : Nat → Nat) (fr : Nat) (fev : Nat → Nat) (eav : Nat → Int64) (rov : Nat → Nat) : Bool := (if fr = 0 then (if 4000000000000000000 ≤ ((f3_findExact_l1 tkv opv shv wyv bdv icv fz 0 0 0 rov).1) then false else (if sn = 0 then true else (if (bdv (21 * ((f3_findExact_l1 tkv opv shv wyv bdv icv fz 0 0 0 rov).2.1))) = true then false else true))) else (if 0 ≤ (((f3_findExact_l2 wyv bdv fev (f3_spread_eav tkv opv shv wyv bdv fz icv fr fev eav) ((2 ^ fr) - 1) fr ((-1)) 4000000000000000000 fr).1)) then true else false))
def f3_findExact_eav (tkv : Nat → Int64) (opv : Nat → Int64) (shv : Nat → Int64) (wyv : Nat → Int64) (bdv : Nat → Bool) (fz : Nat) (icv : Nat → Nat) (fr : Nat) (fev : Nat → Nat) (eav : Nat → Int64) : Nat → Int64 := (if fr = 0 then eav else (if 0 ≤ (((f3_findExact_l2 wyv bdv fev (f3_spread_eav tkv opv shv wyv bdv fz icv fr fev eav) ((2 ^ fr) - 1) fr ((-1)) 4000000000000000000 fr).1)) then f3_spread_eav tkv opv shv wyv bdv fz icv fr fev eav else f3_spread_eav tkv opv shv wyv bdv fz icv fr fev eav))
def f3_findExact_rs (sn : Nat) (tkv : Nat → Int64) (opv : Nat → Int64) (shv : Nat → Int64) (wyv : Nat → Int64) (bdv : Nat → Bool) (fz : Nat) (icv : Nat → Nat) (fr : Nat) (fev : Nat → Nat) (eav : Nat → Int64) : Nat := (if fr = 0 then sn else (if 0 ≤ (((f3_findExact_l2 wyv bdv fev (f3_spread_eav tkv opv shv wyv bdv fz icv fr fev eav) ((2 ^ fr) - 1) fr ((-1)) 4000000000000000000 fr).1)) then sn else sn))
def f3_findExact_rov (sn : Nat) (tkv : Nat → Int64) (opv : Nat → Int64) (shv : Nat → Int64) (wyv : Nat → Int64) (bdv : Nat → Bool) (fz : Nat) (icv : Nat → Nat) (fr : Nat) (fev : Nat → Nat) (eav : Nat → Int64) (rov : Nat → Nat) : Nat → Nat := (if fr = 0 then (f3_findExact_l1 tkv opv shv wyv bdv icv fz 0 0 0 rov).2.2.2 else (if 0 ≤ (((f3_findExact_l2 wyv bdv fev (f3_spread_eav tkv opv shv wyv bdv fz icv fr fev eav) ((2 ^ fr) - 1) fr ((-1)) 4000000000000000000 fr).1)) then (f3_findExact_l3 tkv opv shv wyv bdv fr fev (f3_spread_eav tkv opv shv wyv bdv fz icv fr fev eav) (sn - fz) ((2 ^ fr) - 1) ((f3_findExact_l2 wyv bdv fev (f3_spread_eav tkv opv shv wyv bdv fz icv fr fev eav) ((2 ^ fr) - 1) fr ((-1)) 4000000000000000000 fr).1) sn ((f3_findExact_l1 tkv opv shv wyv bdv icv fz 0 0 0 rov).2.2.2)).2.2.2 else (f3_findExact_l1 tkv opv shv wyv bdv icv fz 0 0 0 rov).2.2.2))
set_option maxRecDepth 100000 in
set_option maxHeartbeats 4000000 in
theorem kX3_findExact (l : Launch) (D : va_G) (h : Nat) (ad : Nat → Nat) (cI : ClassId) (cJ : ClassId) (cZ : ClassId) (thr : Int32) (sn : Nat) (tkv : Nat → Int64) (opv : Nat → Int64) (shv : Nat → Int64) (ldv : Nat → Int32) (lim : Int32) (wyv : Nat → Int64) (bdv : Nat → Bool) (isr : Bool) (rn : Nat) (rdv : Nat → Nat) (fz : Nat) (icv : Nat → Nat) (exa : Bool) (fr : Nat) (fev : Nat → Nat) (eav : Nat → Int64) (rs : Nat) (rov : Nat → Nat) (hsn : sn ≤ 20) (hfr : fr ≤ 11) (hfe : ∀ k, k < fr → fev k ≤ 20) (hfz : fz ≤ 20) (hic : ∀ k, k < fz → icv k ≤ 20) (hfs : fz ≤ sn) (V : Nat → Nat → Nat → Prop) (hV0 : ∀ a, a < fr → f3_wellHome wyv bdv (fev a) (f3_spread_eav tkv opv shv wyv bdv fz icv fr fev eav (11 * (2 ^ fr - 1) + a)) < 4000000000000000000 → V (sn - fz) (2 ^ fr - 1) a) (hV1 : ∀ n se a, V (n + 1) se a → a < fr ∧ se < 2 ^ fr ∧ (0 < n → ∃ j, j < fr ∧ q3_fit tkv opv shv wyv bdv fev (f3_spread_eav tkv opv shv wyv bdv fz icv fr fev eav) (q3_clr se a) se a j)) (hV2 : ∀ n se a j, V (n + 1) se a → 0 < n → j < fr → q3_fit tkv opv shv wyv bdv fev (f3_spread_eav tkv opv shv wyv bdv fz icv fr fev eav) (q3_clr se a) se a j → V n (q3_clr se a) j) : gz_M l yX3_findExact cX3_findExact 13 (some .boolean) ({ frames := 2, cells := 0, slots := 0, locals := 58 } : Room) D [(cI, .int), (cJ, .long), (cZ, .boolean)] [.ref h] (wM h ad cI cJ cZ thr sn tkv opv shv ldv lim wyv bdv isr rn rdv fz icv exa fr fev eav rs rov) (some (.int (bI (f3_findExact sn tkv opv shv wyv bdv fz icv fr fev eav rov)))) (wM h ad cI cJ cZ thr sn tkv opv shv ldv lim wyv bdv isr rn rdv fz icv exa fr fev (f3_findExact_eav tkv opv shv wyv bdv fz icv fr fev eav) (f3_findExact_rs sn tkv opv shv wyv bdv fz icv fr fev eav) (f3_findExact_rov sn tkv opv shv wyv bdv fz icv fr fev eav rov)) 0 0 := by
  refine gz_met l (by decide) (Nat.le_of_ble_eq_true rfl) [(0, .ref h)] rfl ?_
  intro sz p e s m args below meth c C hr hk hnm
  have C : gz_C p s m args c cX3_findExact 13 RX3 D [(cI, .int), (cJ, .long), (cZ, .boolean)] (va_A (wM h ad cI cJ cZ thr sn tkv opv shv ldv lim wyv bdv isr rn rdv fz icv exa fr fev eav rs rov) sz) := C
  refine gz_lconst (v := 0) C dX3_findExact_0 (by decide) ?_
  refine gz_lstore_n (lv2 := [(1, .long 0), (0, .ref h)]) C dX3_findExact_1 (by decide) rfl ?_
  refine gz_iconst (v := nI 0) C dX3_findExact_2 (by decide) ?_
  refine gz_istore_n (lv2 := [(3, .int (nI 0)), (1, .long 0), (0, .ref h)]) C dX3_findExact_3 (by decide) rfl ?_
  refine gz_iconst (v := nI 0) C dX3_findExact_4 (by decide) ?_
  refine gz_istore (lv2 := [(4, .int (nI 0)), (3, .int (nI 0)), (1, .long 0), (0, .ref h)]) C dX3_findExact_5 (by decide) rfl ?_
  refine gz_lv (lv2 := [(0, .ref h), (1, .long 0), (3, .int (nI 0)), (4, .int (nI 0))]) [3, 2, 1, 0] rfl ?_
  refine lX3_findExact_l1 h ad cI cJ cZ thr sn tkv opv shv ldv lim wyv bdv isr rn rdv fz icv exa fr fev eav rs (by first | assumption | omega) (by first | assumption | omega) ⟨Nat.le_of_ble_eq_true rfl, Nat.le_of_ble_eq_true rfl⟩ ⟨Nat.zero_le _, Nat.zero_le _⟩ C fz 0 0 0 rov (by omega) (by first | assumption | omega) ?_
  intro zme_l1 zhla_l1
  refine gz_aload_n C 0 dX3_findExact_58 rfl ?_
  refine gz_aload_n C 0 dX3_findExact_59 rfl ?_
  refine gz_get (ci := 4) C iwX3 0 rfl rfl 1 (by decide) wk_381 rfl rfl dX3_findExact_60 ?_
  refine gz_put (ci := 4) (ws2 := (wM h ad cI cJ cZ thr sn tkv opv shv ldv lim wyv bdv isr rn rdv fz icv exa fr fev eav sn ((f3_findExact_l1 tkv opv shv wyv bdv icv fz 0 0 0 rov).2.2.2))) C iwX3 0 rfl rfl 18 (by decide) wk_398 rfl tyX3 tyX3_ok nmX3 rfl rfl rfl rfl (Nat.le_of_ble_eq_true rfl) rfl dX3_findExact_63 ?_
  refine gz_aload_n C 0 dX3_findExact_66 rfl ?_
  refine gz_get (ci := 4) C iwX3 0 rfl rfl 15 (by decide) wk_395 rfl rfl dX3_findExact_67 ?_
  refine gz_nif_ne C 106 (by omega) dX3_findExact_70 (by decide) (fun h_1 => ?_) (fun h_1 => ?_)
  · have g_1 : ¬ (fr = 0) := h_1
    have hp9 := bz_pow hfr
    have hp8 := bz_pow1 fr
    refine gz_aload_n C 0 dX3_findExact_106 rfl ?_
    refine gz_callV (wr := []) (n := 0) (ws2 := (wM h ad cI cJ cZ thr sn tkv opv shv ldv lim wyv bdv isr rn rdv fz icv exa fr fev (f3_spread_eav tkv opv shv wyv bdv fz icv fr fev eav) sn ((f3_findExact_l1 tkv opv shv wyv bdv icv fz 0 0 0 rov).2.2.2))) (st2 := []) (cells2 := 0) (slots2 := 0) (ci := 4) C (kX3_spread l D h ad cI cJ cZ thr sn tkv opv shv ldv lim wyv bdv isr rn rdv fz icv exa fr fev eav sn ((f3_findExact_l1 tkv opv shv wyv bdv icv fz 0 0 0 rov).2.2.2) (by first | assumption | omega) (by first | assumption | omega) (by first | assumption | omega) (by first | assumption | omega)) (WB_V wk_490 wk_492 ws_22 wk_4 wk_493) (by decide +kernel) ⟨⟨rfl, rfl⟩, Nat.le_of_ble_eq_true rfl, Nat.le_of_ble_eq_true rfl⟩ [0, 1, 2, 3, 4, 5, 6, 7, 8, 9, 10, 11] [] [0, 1, 2] rfl rfl rfl (by decide) rfl 0 rfl rfl rfl rfl (Nat.le_of_ble_eq_true rfl) dX3_findExact_107 ⟨Nat.zero_le _, Nat.zero_le _⟩ rfl rfl rfl ?_
    refine gz_iconst (v := nI 1) C dX3_findExact_110 (by decide) ?_
    refine gz_aload_n C 0 dX3_findExact_111 rfl ?_
    refine gz_get (ci := 4) C iwX3 0 rfl rfl 15 (by decide) wk_395 rfl rfl dX3_findExact_112 ?_
    refine gz_ishl (v := nI (2 ^ fr)) C dX3_findExact_115 (bz_shl (by omega)) ?_
    refine gz_iconst (v := nI 1) C dX3_findExact_116 (by decide) ?_
    refine gz_isub (v := nI ((2 ^ fr) - 1)) C dX3_findExact_117 (pk_sub (by first | omega | exact Nat.one_le_two_pow)) ?_
    refine gz_istore (lv2 := [(4, .int (nI ((2 ^ fr) - 1))), (0, .ref h), (1, .long ((f3_findExact_l1 tkv opv shv wyv bdv icv fz 0 0 0 rov).1)), (3, .int (nI ((f3_findExact_l1 tkv opv shv wyv bdv icv fz 0 0 0 rov).2.1)))]) C dX3_findExact_118 (by decide) rfl ?_
    refine gz_iconst (v := ((-1))) C dX3_findExact_120 (by decide) ?_
    refine gz_istore (lv2 := [(5, .int ((-1))), (4, .int (nI ((2 ^ fr) - 1))), (0, .ref h), (1, .long ((f3_findExact_l1 tkv opv shv wyv bdv icv fz 0 0 0 rov).1)), (3, .int (nI ((f3_findExact_l1 tkv opv shv wyv bdv icv fz 0 0 0 rov).2.1)))]) C dX3_findExact_121 (by decide) rfl ?_
    refine gz_ldc2 (v := 4000000000000000000) C wk_489 dX3_findExact_123 ?_
    refine gz_lstore (lv2 := [(6, .long 4000000000000000000), (5, .int ((-1))), (4, .int (nI ((2 ^ fr) - 1))), (0, .ref h), (1, .long ((f3_findExact_l1 tkv opv shv wyv bdv icv fz 0 0 0 rov).1)), (3, .int (nI ((f3_findExact_l1 tkv opv shv wyv bdv icv fz 0 0 0 rov).2.1)))]) C dX3_findExact_126 (by decide) rfl ?_
    refine gz_aload_n C 3 dX3_findExact_128 rfl ?_
    refine gz_get (ci := 4) C iwX3 0 rfl rfl 15 (by decide) wk_395 rfl rfl dX3_findExact_129 ?_
    refine gz_iconst (v := nI 1) C dX3_findExact_132 (by decide) ?_
    refine gz_isub (v := (nI fr - 1)) C dX3_findExact_133 rfl ?_
    refine gz_istore (lv2 := [(8, .int (nI fr - 1)), (6, .long 4000000000000000000), (5, .int ((-1))), (4, .int (nI ((2 ^ fr) - 1))), (0, .ref h), (1, .long ((f3_findExact_l1 tkv opv shv wyv bdv icv fz 0 0 0 rov).1)), (3, .int (nI ((f3_findExact_l1 tkv opv shv wyv bdv icv fz 0 0 0 rov).2.1)))]) C dX3_findExact_134 (by decide) rfl ?_
    refine gz_lv (lv2 := [(0, .ref h), (4, .int (nI ((2 ^ fr) - 1))), (5, .int ((-1))), (6, .long 4000000000000000000), (8, .int (nI fr - 1))]) [4, 3, 2, 1, 0] rfl ?_
    refine lX3_findExact_l2 h ad cI cJ cZ thr sn tkv opv shv ldv lim wyv bdv isr rn rdv fz icv exa fr fev (f3_spread_eav tkv opv shv wyv bdv fz icv fr fev eav) sn ((f3_findExact_l1 tkv opv shv wyv bdv icv fz 0 0 0 rov).2.2.2) ((2 ^ fr) - 1) (by first | assumption | omega) (by first | assumption | omega) (by first | assumption | omega) ⟨Nat.le_of_ble_eq_true rfl, Nat.le_of_ble_eq_true rfl⟩ ⟨Nat.zero_le _, Nat.zero_le _⟩ C fr ((-1)) 4000000000000000000 fr ⟨rfl, by omega⟩ (by first | assumption | omega) (Or.inl (by decide)) ?_
    intro zme_l2 zhu_l2 zhat_l2
    refine gz_iload C 2 dX3_findExact_198 rfl ?_
    refine gz_if_ge C 205 dX3_findExact_200 (by decide) (fun h_2 => ?_) (fun h_2 => ?_)
    · skip
      refine gz_aload_n C 0 dX3_findExact_205 rfl ?_
      refine gz_get (ci := 4) C iwX3 0 rfl rfl 1 (by decide) wk_381 rfl rfl dX3_findExact_206 ?_
      refine gz_iconst (v := nI 1) C dX3_findExact_209 (by decide) ?_
      refine gz_isub (v := (nI sn - 1)) C dX3_findExact_210 rfl ?_
      refine gz_istore (lv2 := [(8, .int (nI sn - 1)), (0, .ref h), (4, .int (nI ((2 ^ fr) - 1))), (5, .int ((f3_findExact_l2 wyv bdv fev (f3_spread_eav tkv opv shv wyv bdv fz icv fr fev eav) ((2 ^ fr) - 1) fr ((-1)) 4000000000000000000 fr).1)), (6, .long ((f3_findExact_l2 wyv bdv fev (f3_spread_eav tkv opv shv wyv bdv fz icv fr fev eav) ((2 ^ fr) - 1) fr ((-1)) 4000000000000000000 fr).2.1))]) C dX3_findExact_211 (by decide) rfl ?_
      refine gz_lv (lv2 := [(0, .ref h), (4, .int (nI ((2 ^ fr) - 1))), (5, .int ((f3_findExact_l2 wyv bdv fev (f3_spread_eav tkv opv shv wyv bdv fz icv fr fev eav) ((2 ^ fr) - 1) fr ((-1)) 4000000000000000000 fr).1)), (8, .int (nI sn - 1))]) [1, 2, 3, 0] rfl ?_
      refine lX3_findExact_l3 h ad cI cJ cZ thr sn tkv opv shv ldv lim wyv bdv isr rn rdv fz icv exa fr fev (f3_spread_eav tkv opv shv wyv bdv fz icv fr fev eav) sn (by first | assumption | omega) (by first | assumption | omega) V hV1 hV2 ⟨Nat.le_of_ble_eq_true rfl, Nat.le_of_ble_eq_true rfl⟩ ⟨Nat.zero_le _, Nat.zero_le _⟩ C (sn - fz) ((2 ^ fr) - 1) ((f3_findExact_l2 wyv bdv fev (f3_spread_eav tkv opv shv wyv bdv fz icv fr fev eav) ((2 ^ fr) - 1) fr ((-1)) 4000000000000000000 fr).1) sn ((f3_findExact_l1 tkv opv shv wyv bdv icv fz 0 0 0 rov).2.2.2) (by omega) (by
    intro _
    rcases zhat_l2 with z | z
    · exact absurd z (Int32.not_lt.mpr h_2)
    · obtain ⟨z1, z2, z3⟩ := z
      exact ⟨z1, hV0 _ z2 z3⟩) ?_
      intro zme_l3 zhat_l3
      refine gz_iconst (v := nI 1) C dX3_findExact_363 (by decide) ?_
      refine gz_sw (v := .int (nI 1)) (w := .int (bI true)) (by rw [show nI 1 = bI true from (by first | rfl | decide | ((repeat' split) <;> rfl))]) ?_
      exact gz_zret C hr hk (bI_nar _) (by first | rfl | (simp only [f3_findExact, f3_findExact_eav, f3_findExact_rs, f3_findExact_rov, if_neg g_1, if_pos h_2]) | (simp only [f3_findExact, f3_findExact_eav, f3_findExact_rs, f3_findExact_rov, if_neg g_1, if_pos h_2]; rfl)) (by first | rfl | (simp only [f3_findExact, f3_findExact_eav, f3_findExact_rs, f3_findExact_rov, if_neg g_1, if_pos h_2]) | (simp only [f3_findExact, f3_findExact_eav, f3_findExact_rs, f3_findExact_rov, if_neg g_1, if_pos h_2]; rfl)) (Nat.le_refl _) (Nat.le_refl _) dX3_findExact_364
    · have g_2 : ¬ (0 ≤ (((f3_findExact_l2 wyv bdv fev (f3_spread_eav tkv opv shv wyv bdv fz icv fr fev eav) ((2 ^ fr) - 1) fr ((-1)) 4000000000000000000 fr).1))) := h_2
      refine gz_iconst (v := nI 0) C dX3_findExact_203 (by decide) ?_
      refine gz_sw (v := .int (nI 0)) (w := .int (bI false)) (by rw [show nI 0 = bI false from (by first | rfl | decide | ((repeat' split) <;> rfl))]) ?_
      exact gz_zret C hr hk (bI_nar _) (by first | rfl | (simp only [f3_findExact, f3_findExact_eav, f3_findExact_rs, f3_findExact_rov, if_neg g_1, if_neg g_2]) | (simp only [f3_findExact, f3_findExact_eav, f3_findExact_rs, f3_findExact_rov, if_neg g_1, if_neg g_2]; rfl)) (by first | rfl | (simp only [f3_findExact, f3_findExact_eav, f3_findExact_rs, f3_findExact_rov, if_neg g_1, if_neg g_2]) | (simp only [f3_findExact, f3_findExact_eav, f3_findExact_rs, f3_findExact_rov, if_neg g_1, if_neg g_2]; rfl)) (Nat.le_refl _) (Nat.le_refl _) dX3_findExact_204
  · skip
    refine gz_lload_n C 1 dX3_findExact_73 rfl ?_
    refine gz_ldc2 (v := 4000000000000000000) C wk_489 dX3_findExact_74 ?_
    refine gz_J (ws2 := (wM h ad cI cJ cZ thr sn tkv opv shv ldv lim wyv bdv isr rn rdv fz icv exa fr fev eav sn ((f3_findExact_l1 tkv opv shv wyv bdv icv fz 0 0 0 rov).2.2.2))) (lv2 := [(0, .ref h), (1, .long ((f3_findExact_l1 tkv opv shv wyv bdv icv fz 0 0 0 rov).1)), (3, .int (nI ((f3_findExact_l1 tkv opv shv wyv bdv icv fz 0 0 0 rov).2.1))), (4, .int (nI ((f3_findExact_l1 tkv opv shv wyv bdv icv fz 0 0 0 rov).2.2.1)))]) (st2 := [.int (nI ((if 4000000000000000000 ≤ ((f3_findExact_l1 tkv opv shv wyv bdv icv fz 0 0 0 rov).1) then 0 else (if sn = 0 then 1 else (if (bdv (21 * ((f3_findExact_l1 tkv opv shv wyv bdv icv fz 0 0 0 rov).2.1))) = true then 0 else 1)))))]) (pc2 := 105) ?_ (fun J_3 => ?_)
    rotate_left
    · refine gz_lcmp_ge C 104 dX3_findExact_77 dX3_findExact_78 (by decide) (fun h_3 => ?_) (fun h_3 => ?_)
      · skip
        refine gz_iconst (v := nI 0) C dX3_findExact_104 (by decide) ?_
        simp only [if_pos h_3] at J_3 ⊢
        exact gz_lv [0, 1, 2, 3] rfl J_3
      · have g_3 : ¬ (4000000000000000000 ≤ ((f3_findExact_l1 tkv opv shv wyv bdv icv fz 0 0 0 rov).1)) := h_3
        refine gz_aload_n C 0 dX3_findExact_81 rfl ?_
        refine gz_get (ci := 4) C iwX3 0 rfl rfl 1 (by decide) wk_381 rfl rfl dX3_findExact_82 ?_
        refine gz_J (ws2 := (wM h ad cI cJ cZ thr sn tkv opv shv ldv lim wyv bdv isr rn rdv fz icv exa fr fev eav sn ((f3_findExact_l1 tkv opv shv wyv bdv icv fz 0 0 0 rov).2.2.2))) (lv2 := [(0, .ref h), (1, .long ((f3_findExact_l1 tkv opv shv wyv bdv icv fz 0 0 0 rov).1)), (3, .int (nI ((f3_findExact_l1 tkv opv shv wyv bdv icv fz 0 0 0 rov).2.1))), (4, .int (nI ((f3_findExact_l1 tkv opv shv wyv bdv icv fz 0 0 0 rov).2.2.1)))]) (st2 := [.int (nI ((if sn = 0 then 1 else (if (bdv (21 * ((f3_findExact_l1 tkv opv shv wyv bdv icv fz 0 0 0 rov).2.1))) = true then 0 else 1))))]) (pc2 := 105) ?_ (fun J_4 => ?_)
        rotate_left
        · refine gz_nif_eq C 100 (by omega) dX3_findExact_85 (by decide) (fun h_4 => ?_) (fun h_4 => ?_)
          · skip
            refine gz_iconst (v := nI 1) C dX3_findExact_100 (by decide) ?_
            refine gz_goto C 105 dX3_findExact_101 (by decide) ?_
            simp only [if_pos h_4] at J_4 ⊢
            exact gz_lv [0, 1, 2, 3] rfl J_4
          · have g_4 : ¬ (sn = 0) := h_4
            refine gz_aload_n C 0 dX3_findExact_88 rfl ?_
            refine gz_get (ci := 4) C iwX3 0 rfl rfl 8 (by decide) wk_388 rfl rfl dX3_findExact_89 ?_
            refine gz_bipush (v := nI 21) C dX3_findExact_92 (by decide) ?_
            refine gz_iload_n C 2 dX3_findExact_94 rfl ?_
            refine gz_imul (v := nI (21 * ((f3_findExact_l1 tkv opv shv wyv bdv icv fz 0 0 0 rov).2.1))) C dX3_findExact_95 (pk_mul _ _) ?_
            refine gz_zald C 6 2 rfl rfl (by omega) (by decide) dX3_findExact_96 ?_
            refine gz_J (ws2 := (wM h ad cI cJ cZ thr sn tkv opv shv ldv lim wyv bdv isr rn rdv fz icv exa fr fev eav sn ((f3_findExact_l1 tkv opv shv wyv bdv icv fz 0 0 0 rov).2.2.2))) (lv2 := [(0, .ref h), (1, .long ((f3_findExact_l1 tkv opv shv wyv bdv icv fz 0 0 0 rov).1)), (3, .int (nI ((f3_findExact_l1 tkv opv shv wyv bdv icv fz 0 0 0 rov).2.1))), (4, .int (nI ((f3_findExact_l1 tkv opv shv wyv bdv icv fz 0 0 0 rov).2.2.1)))]) (st2 := [.int (nI ((if (bdv (21 * ((f3_findExact_l1 tkv opv shv wyv bdv icv fz 0 0 0 rov).2.1))) = true then 0 else 1)))]) (pc2 := 105) ?_ (fun J_5 => ?_)
            rotate_left
            · refine gz_bif_ne C 104 dX3_findExact_97 (by decide) (fun h_5 => ?_) (fun h_5 => ?_)
              · skip
                refine gz_iconst (v := nI 0) C dX3_findExact_104 (by decide) ?_
                simp only [if_pos h_5] at J_5 ⊢
                exact gz_lv [0, 1, 2, 3] rfl J_5
              · have g_5 : ¬ ((bdv (21 * ((f3_findExact_l1 tkv opv shv wyv bdv icv fz 0 0 0 rov).2.1))) = true) := (by rw [h_5]; decide)
                refine gz_iconst (v := nI 1) C dX3_findExact_100 (by decide) ?_
                refine gz_goto C 105 dX3_findExact_101 (by decide) ?_
                simp only [if_neg g_5] at J_5 ⊢
                exact gz_lv [0, 1, 2, 3] rfl J_5
            simp only [if_neg g_4] at J_4 ⊢
            exact gz_lv [0, 1, 2, 3] rfl J_4
        simp only [if_neg g_3] at J_3 ⊢
        exact gz_lv [0, 1, 2, 3] rfl J_3
    refine gz_sw (v := .int (nI ((if 4000000000000000000 ≤ ((f3_findExact_l1 tkv opv shv wyv bdv icv fz 0 0 0 rov).1) then 0 else (if sn = 0 then 1 else (if (bdv (21 * ((f3_findExact_l1 tkv opv shv wyv bdv icv fz 0 0 0 rov).2.1))) = true then 0 else 1)))))) (w := .int (bI ((if 4000000000000000000 ≤ ((f3_findExact_l1 tkv opv shv wyv bdv icv fz 0 0 0 rov).1) then false else (if sn = 0 then true else (if (bdv (21 * ((f3_findExact_l1 tkv opv shv wyv bdv icv fz 0 0 0 rov).2.1))) = true then false else true)))))) (by rw [show nI ((if 4000000000000000000 ≤ ((f3_findExact_l1 tkv opv shv wyv bdv icv fz 0 0 0 rov).1) then 0 else (if sn = 0 then 1 else (if (bdv (21 * ((f3_findExact_l1 tkv opv shv wyv bdv icv fz 0 0 0 rov).2.1))) = true then 0 else 1)))) = bI ((if 4000000000000000000 ≤ ((f3_findExact_l1 tkv opv shv wyv bdv icv fz 0 0 0 rov).1) then false else (if sn = 0 then true else (if (bdv (21 * ((f3_findExact_l1 tkv opv shv wyv bdv icv fz 0 0 0 rov).2.1))) = true then false else true)))) from (by first | rfl | decide | ((repeat' split) <;> rfl))]) ?_
    exact gz_zret C hr hk (bI_nar _) (by first | rfl | (simp only [f3_findExact, f3_findExact_eav, f3_findExact_rs, f3_findExact_rov, if_pos h_1]) | (simp only [f3_findExact, f3_findExact_eav, f3_findExact_rs, f3_findExact_rov, if_pos h_1]; rfl)) (by first | rfl | (simp only [f3_findExact, f3_findExact_eav, f3_findExact_rs, f3_findExact_rov, if_pos h_1]) | (simp only [f3_findExact, f3_findExact_eav, f3_findExact_rs, f3_findExact_rov, if_pos h_1]; rfl)) (Nat.le_refl _) (Nat.le_refl _) dX3_findExact_105

