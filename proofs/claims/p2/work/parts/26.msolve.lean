theorem q3_insert_le {tkv opv shv wyv : Nat → Int64} {bdv : Nat → Bool} {fz rs x B : Nat} {rov : Nat → Nat} (hrs : rs ≤ 19) (hfz : fz ≤ rs) (hx : x ≤ B) (h : ∀ k, k < rs → rov k ≤ B) : ∀ k, k < rs + 1 → f3_insert_rov tkv opv shv wyv bdv fz rs rov x k ≤ B := by
  obtain ⟨r1, pl, p1, p2, e1, _, e2⟩ := q3_insert (tkv := tkv) (opv := opv) (shv := shv) (wyv := wyv) (bdv := bdv) (x := x) hrs hfz rov
  rw [e2]
  exact q3_putIn_le p2 hx (fun k hk => by rw [e1 k hk]; exact h k hk)

def f3_solve_s1 (fz : Nat) (icv : Nat → Nat) : Nat → Nat → Nat → (Nat → Nat) → Nat × Nat × (Nat → Nat)
  | 0, k, fr, fev => (k, fr, fev)
  | n + 1, k, fr, fev => f3_solve_s1 fz icv n (k + 1) ((if (f3_isFrozen fz icv k) = true then fr else fr + 1)) ((if (f3_isFrozen fz icv k) = true then fev else va_up fev fr k))
set_option maxRecDepth 100000 in
set_option maxHeartbeats 4000000 in
theorem lX3_solve_s1 {p : Program} {l : Launch} {e : Env} {R : Room} {s : State} {m : MethodId} {args : Array Value} {below : List Frame} {meth : Method} {c : Code} {cells slots : Nat} {Q : State → Prop} {A : Nat → Prop} {D : va_G} (h : Nat) (ad : Nat → Nat) (cI : ClassId) (cJ : ClassId) (cZ : ClassId) (thr : Int32) (sn : Nat) (tkv : Nat → Int64) (opv : Nat → Int64) (shv : Nat → Int64) (ldv : Nat → Int32) (lim : Int32) (wyv : Nat → Int64) (bdv : Nat → Bool) (isr : Bool) (rn : Nat) (rdv : Nat → Nat) (fz : Nat) (icv : Nat → Nat) (exa : Bool) (eav : Nat → Int64) (rs : Nat) (rov : Nat → Nat) (stp : Int64) (hsn : sn ≤ 20) (hfz : fz ≤ 20) (hic : ∀ k, k < fz → icv k ≤ 20) (hR : 1 ≤ R.frames ∧ 23 ≤ R.locals) (hce : cells ≤ R.cells ∧ slots ≤ R.slots) (C : gz_C p s m args c cX3_solve 5 RX3 D [(cI, .int), (cJ, .long), (cZ, .boolean)] A) : ∀ (n : Nat) (k : Nat) (fr : Nat) (fev : Nat → Nat), (k + n = sn + 1) → (fr < k) → ((((f3_solve_s1 fz icv n k fr fev).1) + 0 = sn + 1) → (((f3_solve_s1 fz icv n k fr fev).2.1) < ((f3_solve_s1 fz icv n k fr fev).1)) → GZ p l e R s m args below meth c 5 D A cells slots Q (wM h ad cI cJ cZ thr sn tkv opv shv ldv lim wyv bdv isr rn rdv fz icv exa ((f3_solve_s1 fz icv n k fr fev).2.1) ((f3_solve_s1 fz icv n k fr fev).2.2) eav rs rov) [(0, .ref h), (1, .long stp), (3, .int (nI ((f3_solve_s1 fz icv n k fr fev).1)))] [] 104) → GZ p l e R s m args below meth c 5 D A cells slots Q (wM h ad cI cJ cZ thr sn tkv opv shv ldv lim wyv bdv isr rn rdv fz icv exa fr fev eav rs rov) [(0, .ref h), (1, .long stp), (3, .int (nI k))] [] 62 := by
  intro n
  induction n with
  | zero =>
    intro k fr fev hme hfk hx
    refine gz_iload_n C 2 dX3_solve_62 rfl ?_
    refine gz_aload_n C 0 dX3_solve_63 rfl ?_
    refine gz_get (ci := 4) C iwX3 0 rfl rfl 1 (by decide) wk_381 rfl rfl dX3_solve_64 ?_
    refine gz_ncmp_gt C 104 (by omega) (by omega) dX3_solve_67 (by decide) (fun h_1 => ?_) (fun h_1 => ?_)
    · skip
      exact gz_lv [0, 1, 2] rfl (hx hme hfk)
    · have g_1 : ¬ (sn < k) := (Nat.not_lt.mpr h_1)
      exfalso; omega
  | succ n ih =>
    intro k fr fev hme hfk hx
    refine gz_iload_n C 2 dX3_solve_62 rfl ?_
    refine gz_aload_n C 0 dX3_solve_63 rfl ?_
    refine gz_get (ci := 4) C iwX3 0 rfl rfl 1 (by decide) wk_381 rfl rfl dX3_solve_64 ?_
    refine gz_ncmp_gt C 104 (by omega) (by omega) dX3_solve_67 (by decide) (fun h_1 => ?_) (fun h_1 => ?_)
    · skip
      exfalso; omega
    · have g_1 : ¬ (sn < k) := (Nat.not_lt.mpr h_1)
      refine gz_aload_n C 0 dX3_solve_70 rfl ?_
      refine gz_iload_n C 2 dX3_solve_71 rfl ?_
      refine gz_callV (wr := []) (n := 1) (ws2 := (wM h ad cI cJ cZ thr sn tkv opv shv ldv lim wyv bdv isr rn rdv fz icv exa fr fev eav rs rov)) (st2 := [.int (bI (f3_isFrozen fz icv k))]) (cells2 := cells) (slots2 := slots) (ci := 4) C (kX3_isFrozen l D h ad cI cJ cZ thr sn tkv opv shv ldv lim wyv bdv isr rn rdv fz icv exa fr fev eav rs rov k (by first | assumption | omega) (by first | assumption | omega) (by first | assumption | omega)) (WB_V wk_477 wk_479 ws_19 wk_4 wk_480) (by decide +kernel) ⟨⟨rfl, rfl⟩, Nat.le_trans (by decide) hR.1, Nat.le_trans (by decide) hR.2⟩ [0, 1, 2, 3, 4, 5, 6, 7, 8, 9, 10, 11] [] [0, 1, 2] rfl rfl rfl (by decide) rfl 0 rfl rfl rfl rfl (Nat.le_of_ble_eq_true rfl) dX3_solve_72 hce rfl rfl rfl ?_
      refine gz_J (ws2 := (wM h ad cI cJ cZ thr sn tkv opv shv ldv lim wyv bdv isr rn rdv fz icv exa ((if (f3_isFrozen fz icv k) = true then fr else fr + 1)) ((if (f3_isFrozen fz icv k) = true then fev else va_up fev fr k)) eav rs rov)) (lv2 := [(0, .ref h), (1, .long stp), (3, .int (nI k))]) (st2 := []) (pc2 := 98) ?_ (fun J_2 => ?_)
      rotate_left
      · refine gz_bif_ne C 98 dX3_solve_75 (by decide) (fun h_2 => ?_) (fun h_2 => ?_)
        · skip
          simp only [if_pos h_2] at J_2 ⊢
          exact gz_lv [0, 1, 2] rfl J_2
        · have g_2 : ¬ ((f3_isFrozen fz icv k) = true) := (by rw [h_2]; decide)
          refine gz_aload_n C 0 dX3_solve_78 rfl ?_
          refine gz_get (ci := 4) C iwX3 0 rfl rfl 16 (by decide) wk_396 rfl rfl dX3_solve_79 ?_
          refine gz_aload_n C 0 dX3_solve_82 rfl ?_
          refine gz_get (ci := 4) C iwX3 0 rfl rfl 15 (by decide) wk_395 rfl rfl dX3_solve_83 ?_
          refine gz_iload_n C 2 dX3_solve_86 rfl ?_
          refine gz_iast (ws2 := (wM h ad cI cJ cZ thr sn tkv opv shv ldv lim wyv bdv isr rn rdv fz icv exa fr (va_up fev fr k) eav rs rov)) C 9 0 rfl rfl (by omega) (by decide) rfl dX3_solve_87 ?_
          refine gz_aload_n C 0 dX3_solve_88 rfl ?_
          refine gz_dup C dX3_solve_89 rfl ?_
          refine gz_get (ci := 4) C iwX3 0 rfl rfl 15 (by decide) wk_395 rfl rfl dX3_solve_90 ?_
          refine gz_iconst (v := nI 1) C dX3_solve_93 (by decide) ?_
          refine gz_iadd (v := nI (fr + 1)) C dX3_solve_94 (nI_add _ _) ?_
          refine gz_put (ci := 4) (ws2 := (wM h ad cI cJ cZ thr sn tkv opv shv ldv lim wyv bdv isr rn rdv fz icv exa (fr + 1) (va_up fev fr k) eav rs rov)) C iwX3 0 rfl rfl 15 (by decide) wk_395 rfl tyX3 tyX3_ok nmX3 rfl rfl rfl rfl (Nat.le_of_ble_eq_true rfl) rfl dX3_solve_95 ?_
          simp only [if_neg g_2] at J_2 ⊢
          exact gz_lv [0, 1, 2] rfl J_2
      refine gz_iinc (v := nI (k + 1)) (lv2 := [(3, .int (nI (k + 1))), (0, .ref h), (1, .long stp)]) (k := 2) C dX3_solve_98 rfl (nI_add _ 1) (by decide) rfl ?_
      refine gz_goto C 62 dX3_solve_101 (by decide) ?_
      refine gz_lv [1, 2, 0] rfl ?_
      simp only [f3_solve_s1, if_neg g_1] at hx
      exact ih (k + 1) ((if (f3_isFrozen fz icv k) = true then fr else fr + 1)) ((if (f3_isFrozen fz icv k) = true then fev else va_up fev fr k)) (by omega) (by first | omega | (split <;> omega)) hx

def f3_solve_s2 (icv : Nat → Nat) : Nat → Nat → (Nat → Nat) → Nat × (Nat → Nat)
  | 0, k, rov => (k, rov)
  | n + 1, k, rov => f3_solve_s2 icv n (k + 1) (va_up rov k (icv k))
set_option maxRecDepth 100000 in
set_option maxHeartbeats 4000000 in
theorem lX3_solve_s2 {p : Program} {l : Launch} {e : Env} {R : Room} {s : State} {m : MethodId} {args : Array Value} {below : List Frame} {meth : Method} {c : Code} {cells slots : Nat} {Q : State → Prop} {A : Nat → Prop} {D : va_G} (h : Nat) (ad : Nat → Nat) (cI : ClassId) (cJ : ClassId) (cZ : ClassId) (thr : Int32) (sn : Nat) (tkv : Nat → Int64) (opv : Nat → Int64) (shv : Nat → Int64) (ldv : Nat → Int32) (lim : Int32) (wyv : Nat → Int64) (bdv : Nat → Bool) (isr : Bool) (rn : Nat) (rdv : Nat → Nat) (fz : Nat) (icv : Nat → Nat) (exa : Bool) (fr : Nat) (fev : Nat → Nat) (eav : Nat → Int64) (rs : Nat) (stp : Int64) (hfz : fz ≤ 20) (C : gz_C p s m args c cX3_solve 5 RX3 D [(cI, .int), (cJ, .long), (cZ, .boolean)] A) : ∀ (n : Nat) (k : Nat) (rov : Nat → Nat), (k + n = fz) → ((((f3_solve_s2 icv n k rov).1) + 0 = fz) → GZ p l e R s m args below meth c 5 D A cells slots Q (wM h ad cI cJ cZ thr sn tkv opv shv ldv lim wyv bdv isr rn rdv fz icv exa fr fev eav rs ((f3_solve_s2 icv n k rov).2)) [(0, .ref h), (1, .long stp), (3, .int (nI ((f3_solve_s2 icv n k rov).1)))] [] 172) → GZ p l e R s m args below meth c 5 D A cells slots Q (wM h ad cI cJ cZ thr sn tkv opv shv ldv lim wyv bdv isr rn rdv fz icv exa fr fev eav rs rov) [(0, .ref h), (1, .long stp), (3, .int (nI k))] [] 146 := by
  intro n
  induction n with
  | zero =>
    intro k rov hme  hx
    refine gz_iload_n C 2 dX3_solve_146 rfl ?_
    refine gz_aload_n C 0 dX3_solve_147 rfl ?_
    refine gz_get (ci := 4) C iwX3 0 rfl rfl 12 (by decide) wk_392 rfl rfl dX3_solve_148 ?_
    refine gz_ncmp_ge C 172 (by omega) (by omega) dX3_solve_151 (by decide) (fun h_1 => ?_) (fun h_1 => ?_)
    · skip
      exact gz_lv [0, 1, 2] rfl (hx hme )
    · have g_1 : ¬ (fz ≤ k) := (Nat.not_le.mpr h_1)
      exfalso; omega
  | succ n ih =>
    intro k rov hme  hx
    refine gz_iload_n C 2 dX3_solve_146 rfl ?_
    refine gz_aload_n C 0 dX3_solve_147 rfl ?_
    refine gz_get (ci := 4) C iwX3 0 rfl rfl 12 (by decide) wk_392 rfl rfl dX3_solve_148 ?_
    refine gz_ncmp_ge C 172 (by omega) (by omega) dX3_solve_151 (by decide) (fun h_1 => ?_) (fun h_1 => ?_)
    · skip
      exfalso; omega
    · have g_1 : ¬ (fz ≤ k) := (Nat.not_le.mpr h_1)
      refine gz_aload_n C 0 dX3_solve_154 rfl ?_
      refine gz_get (ci := 4) C iwX3 0 rfl rfl 19 (by decide) wk_399 rfl rfl dX3_solve_155 ?_
      refine gz_iload_n C 2 dX3_solve_158 rfl ?_
      refine gz_aload_n C 0 dX3_solve_159 rfl ?_
      refine gz_get (ci := 4) C iwX3 0 rfl rfl 13 (by decide) wk_393 rfl rfl dX3_solve_160 ?_
      refine gz_iload_n C 2 dX3_solve_163 rfl ?_
      refine gz_iald C 8 0 rfl rfl (by omega) (by decide) dX3_solve_164 ?_
      refine gz_iast (ws2 := (wM h ad cI cJ cZ thr sn tkv opv shv ldv lim wyv bdv isr rn rdv fz icv exa fr fev eav rs (va_up rov k (icv k)))) C 11 0 rfl rfl (by omega) (by decide) rfl dX3_solve_165 ?_
      refine gz_iinc (v := nI (k + 1)) (lv2 := [(3, .int (nI (k + 1))), (0, .ref h), (1, .long stp)]) (k := 2) C dX3_solve_166 rfl (nI_add _ 1) (by decide) rfl ?_
      refine gz_goto C 146 dX3_solve_169 (by decide) ?_
      refine gz_lv [1, 2, 0] rfl ?_
      simp only [f3_solve_s2, if_neg g_1] at hx
      exact ih (k + 1) (va_up rov k (icv k)) (by omega)  hx

def f3_solve_s3 (tkv : Nat → Int64) (opv : Nat → Int64) (shv : Nat → Int64) (wyv : Nat → Int64) (bdv : Nat → Bool) (fz : Nat) (fev : Nat → Nat) : Nat → Nat → Nat → (Nat → Nat) → Nat × Nat × (Nat → Nat)
  | 0, k, rs, rov => (k, rs, rov)
  | n + 1, k, rs, rov => f3_solve_s3 tkv opv shv wyv bdv fz fev n (k + 1) (rs + 1) (f3_insert_rov tkv opv shv wyv bdv fz rs rov (fev k))
set_option maxRecDepth 100000 in
set_option maxHeartbeats 4000000 in
theorem lX3_solve_s3 {p : Program} {l : Launch} {e : Env} {R : Room} {s : State} {m : MethodId} {args : Array Value} {below : List Frame} {meth : Method} {c : Code} {cells slots : Nat} {Q : State → Prop} {A : Nat → Prop} {D : va_G} (h : Nat) (ad : Nat → Nat) (cI : ClassId) (cJ : ClassId) (cZ : ClassId) (thr : Int32) (sn : Nat) (tkv : Nat → Int64) (opv : Nat → Int64) (shv : Nat → Int64) (ldv : Nat → Int32) (lim : Int32) (wyv : Nat → Int64) (bdv : Nat → Bool) (isr : Bool) (rn : Nat) (rdv : Nat → Nat) (fz : Nat) (icv : Nat → Nat) (exa : Bool) (fr : Nat) (fev : Nat → Nat) (eav : Nat → Int64) (stp : Int64) (hff : fz + fr ≤ 20) (hfe : ∀ k, k < fr → fev k ≤ 20) (hR : 2 ≤ R.frames ∧ 56 ≤ R.locals) (hce : cells ≤ R.cells ∧ slots ≤ R.slots) (C : gz_C p s m args c cX3_solve 5 RX3 D [(cI, .int), (cJ, .long), (cZ, .boolean)] A) : ∀ (n : Nat) (k : Nat) (rs : Nat) (rov : Nat → Nat), (k + n = fr) → (rs = fz + k) → (∀ j, j < rs → rov j ≤ 20) → ((((f3_solve_s3 tkv opv shv wyv bdv fz fev n k rs rov).1) + 0 = fr) → (((f3_solve_s3 tkv opv shv wyv bdv fz fev n k rs rov).2.1) = fz + ((f3_solve_s3 tkv opv shv wyv bdv fz fev n k rs rov).1)) → (∀ j, j < ((f3_solve_s3 tkv opv shv wyv bdv fz fev n k rs rov).2.1) → ((f3_solve_s3 tkv opv shv wyv bdv fz fev n k rs rov).2.2) j ≤ 20) → GZ p l e R s m args below meth c 5 D A cells slots Q (wM h ad cI cJ cZ thr sn tkv opv shv ldv lim wyv bdv isr rn rdv fz icv exa fr fev eav ((f3_solve_s3 tkv opv shv wyv bdv fz fev n k rs rov).2.1) ((f3_solve_s3 tkv opv shv wyv bdv fz fev n k rs rov).2.2)) [(0, .ref h), (1, .long stp), (3, .int (nI ((f3_solve_s3 tkv opv shv wyv bdv fz fev n k rs rov).1)))] [] 200) → GZ p l e R s m args below meth c 5 D A cells slots Q (wM h ad cI cJ cZ thr sn tkv opv shv ldv lim wyv bdv isr rn rdv fz icv exa fr fev eav rs rov) [(0, .ref h), (1, .long stp), (3, .int (nI k))] [] 174 := by
  intro n
  induction n with
  | zero =>
    intro k rs rov hme hrk hro hx
    refine gz_iload_n C 2 dX3_solve_174 rfl ?_
    refine gz_aload_n C 0 dX3_solve_175 rfl ?_
    refine gz_get (ci := 4) C iwX3 0 rfl rfl 15 (by decide) wk_395 rfl rfl dX3_solve_176 ?_
    refine gz_ncmp_ge C 200 (by omega) (by omega) dX3_solve_179 (by decide) (fun h_1 => ?_) (fun h_1 => ?_)
    · skip
      exact gz_lv [0, 1, 2] rfl (hx hme hrk hro)
    · have g_1 : ¬ (fr ≤ k) := (Nat.not_le.mpr h_1)
      exfalso; omega
  | succ n ih =>
    intro k rs rov hme hrk hro hx
    refine gz_iload_n C 2 dX3_solve_174 rfl ?_
    refine gz_aload_n C 0 dX3_solve_175 rfl ?_
    refine gz_get (ci := 4) C iwX3 0 rfl rfl 15 (by decide) wk_395 rfl rfl dX3_solve_176 ?_
    refine gz_ncmp_ge C 200 (by omega) (by omega) dX3_solve_179 (by decide) (fun h_1 => ?_) (fun h_1 => ?_)
    · skip
      exfalso; omega
    · have g_1 : ¬ (fr ≤ k) := (Nat.not_le.mpr h_1)
      have hq := hfe k (by omega)
      refine gz_aload_n C 0 dX3_solve_182 rfl ?_
      refine gz_aload_n C 0 dX3_solve_183 rfl ?_
      refine gz_get (ci := 4) C iwX3 0 rfl rfl 16 (by decide) wk_396 rfl rfl dX3_solve_184 ?_
      refine gz_iload_n C 2 dX3_solve_187 rfl ?_
      refine gz_iald C 9 0 rfl rfl (by omega) (by decide) dX3_solve_188 ?_
      refine gz_callV (wr := []) (n := 1) (ws2 := (wM h ad cI cJ cZ thr sn tkv opv shv ldv lim wyv bdv isr rn rdv fz icv exa fr fev eav (f3_insert_rs rs) (f3_insert_rov tkv opv shv wyv bdv fz rs rov (fev k)))) (st2 := [.int (f3_insert tkv opv shv wyv bdv fz rs rov (fev k))]) (cells2 := cells) (slots2 := slots) (ci := 4) C (kX3_insert l D h ad cI cJ cZ thr sn tkv opv shv ldv lim wyv bdv isr rn rdv fz icv exa fr fev eav rs rov (fev k) (by first | assumption | omega) (by first | assumption | omega) (by first | assumption | omega) (by first | assumption | omega)) (WB_V wk_498 wk_500 ws_24 wk_4 wk_501) (by decide +kernel) ⟨⟨rfl, rfl⟩, Nat.le_trans (by decide) hR.1, Nat.le_trans (by decide) hR.2⟩ [0, 1, 2, 3, 4, 5, 6, 7, 8, 9, 10, 11] [] [0, 1, 2] rfl rfl rfl (by decide) rfl 0 rfl rfl rfl rfl (Nat.le_of_ble_eq_true rfl) dX3_solve_189 hce rfl rfl rfl ?_
      refine gz_wse (ws2 := (wM h ad cI cJ cZ thr sn tkv opv shv ldv lim wyv bdv isr rn rdv fz icv exa fr fev eav (rs + 1) (f3_insert_rov tkv opv shv wyv bdv fz rs rov (fev k)))) rfl ?_
      refine gz_istore (lv2 := [(4, .int (f3_insert tkv opv shv wyv bdv fz rs rov (fev k))), (0, .ref h), (1, .long stp), (3, .int (nI k))]) C dX3_solve_192 (by decide) rfl ?_
      refine gz_iinc (v := nI (k + 1)) (lv2 := [(3, .int (nI (k + 1))), (4, .int (f3_insert tkv opv shv wyv bdv fz rs rov (fev k))), (0, .ref h), (1, .long stp)]) (k := 3) C dX3_solve_194 rfl (nI_add _ 1) (by decide) rfl ?_
      refine gz_goto C 174 dX3_solve_197 (by decide) ?_
      refine gz_lv [2, 3, 0] rfl ?_
      simp only [f3_solve_s3, if_neg g_1] at hx
      exact ih (k + 1) (rs + 1) (f3_insert_rov tkv opv shv wyv bdv fz rs rov (fev k)) (by omega) (by omega) (q3_insert_le (by omega) (by omega) (by omega) hro) hx

theorem q3_s1 {fz : Nat} {icv : Nat → Nat} (hid : ∀ i j, i < fz → j < fz → icv i = icv j → i = j) : ∀ (n k fr : Nat) (fev : Nat → Nat), 1 ≤ k → fr + q_cnt icv fz k = k - 1 → (∀ j, j < fr → 1 ≤ fev j ∧ fev j < k ∧ f3_isFrozen fz icv (fev j) = false) → (∀ i j, i < j → j < fr → fev i < fev j) →
    (f3_solve_s1 fz icv n k fr fev).2.1 + q_cnt icv fz (k + n) = k + n - 1 ∧ (∀ j, j < (f3_solve_s1 fz icv n k fr fev).2.1 → 1 ≤ (f3_solve_s1 fz icv n k fr fev).2.2 j ∧ (f3_solve_s1 fz icv n k fr fev).2.2 j < k + n ∧ f3_isFrozen fz icv ((f3_solve_s1 fz icv n k fr fev).2.2 j) = false) ∧ (∀ i j, i < j → j < (f3_solve_s1 fz icv n k fr fev).2.1 → (f3_solve_s1 fz icv n k fr fev).2.2 i < (f3_solve_s1 fz icv n k fr fev).2.2 j) := by
  intro n
  induction n with
  | zero => intro k fr fev h1 h2 h3 h4; exact ⟨h2, h3, h4⟩
  | succ n ih =>
    intro k fr fev h1 h2 h3 h4
    unfold f3_solve_s1
    have e : k + (n + 1) = (k + 1) + n := by omega
    rw [e]
    have hc := q_cnt_s (f := icv) (b := k) fz hid
    by_cases c : f3_isFrozen fz icv k = true
    · have c2 : ∃ i, i < fz ∧ icv i = k := q3_isFr.mp c
      rw [if_pos c2] at hc
      simp only [if_pos c]
      exact ih (k + 1) fr fev (by omega) (by omega) (fun j hj => ⟨(h3 j hj).1, by have := (h3 j hj).2.1; omega, (h3 j hj).2.2⟩) h4
    · have c2 : ¬ ∃ i, i < fz ∧ icv i = k := fun z => c (q3_isFr.mpr z)
      rw [if_neg c2] at hc
      simp only [if_neg c]
      refine ih (k + 1) (fr + 1) _ (by omega) (by omega) (fun j hj => ?_) (fun i j hi hj => ?_)
      · by_cases e2 : j = fr
        · subst e2; rw [va_up_self]; exact ⟨h1, by omega, by simpa using c⟩
        · rw [va_up_ne _ _ e2]
          have := h3 j (by omega)
          exact ⟨this.1, by omega, this.2.2⟩
      · by_cases e2 : j = fr
        · subst e2
          rw [va_up_self, va_up_ne _ _ (by omega)]
          exact (h3 i (by omega)).2.1
        · rw [va_up_ne _ _ e2, va_up_ne _ _ (by omega)]
          exact h4 i j hi (by omega)
/-- the stops that are free: how many, which -/
theorem q3_free {fz sn : Nat} {icv fev : Nat → Nat} (hi : q_row fz sn icv) : (f3_solve_s1 fz icv sn 1 0 fev).2.1 + fz = sn ∧ (∀ j, j < (f3_solve_s1 fz icv sn 1 0 fev).2.1 → 1 ≤ (f3_solve_s1 fz icv sn 1 0 fev).2.2 j ∧ (f3_solve_s1 fz icv sn 1 0 fev).2.2 j ≤ sn ∧ f3_isFrozen fz icv ((f3_solve_s1 fz icv sn 1 0 fev).2.2 j) = false) ∧ (∀ i j, i < j → j < (f3_solve_s1 fz icv sn 1 0 fev).2.1 → (f3_solve_s1 fz icv sn 1 0 fev).2.2 i < (f3_solve_s1 fz icv sn 1 0 fev).2.2 j) := by
  have h0 := q_cnt_none (f := icv) fz (fun i h => (hi.1 i h).1)
  have h9 := q_cnt_all (f := icv) (b := 1 + sn) fz (fun i h => by have := (hi.1 i h).2; omega)
  obtain ⟨a, b, c⟩ := q3_s1 hi.2 sn 1 0 fev (Nat.le_refl _) (by rw [h0]) (fun j hj => by omega) (fun i j _ hj => by omega)
  rw [h9] at a
  exact ⟨by omega, fun j hj => ⟨(b j hj).1, by have := (b j hj).2.1; omega, (b j hj).2.2⟩, c⟩
theorem q3_s2 {icv : Nat → Nat} : ∀ (n k : Nat) (rov : Nat → Nat) (j : Nat), (f3_solve_s2 icv n k rov).2 j = if k ≤ j ∧ j < k + n then icv j else rov j := by
  intro n
  induction n with
  | zero =>
    intro k rov j
    rw [if_neg (by omega)]; rfl
  | succ n ih =>
    intro k rov j
    show (f3_solve_s2 icv n (k + 1) (va_up rov k (icv k))).2 j = _
    rw [ih]
    by_cases h1 : k + 1 ≤ j ∧ j < k + 1 + n
    · rw [if_pos h1, if_pos (by omega)]
    · rw [if_neg h1]
      by_cases h2 : j = k
      · subst h2; rw [if_pos (by omega), va_up_self]
      · rw [if_neg (by omega), va_up_ne _ _ h2]

