theorem q2_place_lp {rov : Nat → Nat} {x : Nat} : ∀ n k, f2_placeOf_lp rov x n k = (-1) ∧ (∀ i, k ≤ i → i < k + n → rov i ≠ x) ∨ ∃ p, k ≤ p ∧ p < k + n ∧ rov p = x ∧ f2_placeOf_lp rov x n k = nI p := by
  intro n
  induction n with
  | zero => intro k; exact Or.inl ⟨rfl, fun i h1 h2 => by omega⟩
  | succ n ih =>
    intro k
    unfold f2_placeOf_lp
    by_cases c : rov k = x
    · rw [if_pos c]; exact Or.inr ⟨k, Nat.le_refl _, by omega, c, rfl⟩
    · rw [if_neg c]
      rcases ih (k + 1) with ⟨a, b⟩ | ⟨p, p1, p2, p3, p4⟩
      · refine Or.inl ⟨a, fun i h1 h2 => ?_⟩
        by_cases e : i = k
        · subst e; exact c
        · exact b i (by omega) (by omega)
      · exact Or.inr ⟨p, by omega, by omega, p3, p4⟩
theorem q2_place {rov : Nat → Nat} {x rl fz : Nat} (hr : rl ≤ 20) (hf : fz ≤ 20) (h : nI fz ≤ f2_placeOf rov x rl) : f2_placeOf rov x rl = nI (cl (f2_placeOf rov x rl)) ∧ cl (f2_placeOf rov x rl) < rl ∧ fz ≤ cl (f2_placeOf rov x rl) ∧ rov (cl (f2_placeOf rov x rl)) = x := by
  rcases q2_place_lp (rov := rov) (x := x) rl 0 with ⟨a, _⟩ | ⟨p, p1, p2, p3, p4⟩
  · have e : f2_placeOf rov x rl = (-1) := a
    rw [e] at h
    exfalso
    rw [Int32.le_iff_toInt_le, nI_toInt (by omega)] at h
    have : ((-1 : Int32)).toInt = -1 := by decide
    omega
  · have e : f2_placeOf rov x rl = nI p := p4
    rw [e] at h ⊢
    rw [nI_leI (by omega) (by omega)] at h
    rw [cl_nI (by omega)]
    exact ⟨rfl, by omega, h, p3⟩
theorem q2_isp {ln x : Int32} {rl : Nat} (h : f2_isPlace ln x = true) (hl : ln = nI rl) (hne : ¬ ln = (-1)) (hr : rl ≤ 20) : x = nI (cl x) ∧ cl x < rl := by
  unfold f2_isPlace at h
  by_cases c : x < 0
  · rw [if_pos c] at h; cases h
  · rw [if_neg c, if_neg hne] at h
    by_cases c2 : ln ≤ x
    · rw [if_pos c2] at h; cases h
    · rw [hl] at c2
      exact ⟨cl_of c, cl_ltn c c2 (by omega)⟩
theorem q0_rb_le {tkv opv shv wyv : Nat → Int64} {bdv : Nat → Bool} {ct : Nat} {fev : Nat → Nat} {dnv : Nat → Int64} {B : Nat} (h1 : 1 ≤ ct) (hfe : ∀ k, k < ct → fev k ≤ B) : ∀ (n t b : Nat) (du : Int64) (u : Nat) (rov : Nat → Nat), (∀ k, k < u - n → rov k ≤ B) → n ≤ u → (∀ k, u ≤ k → rov k ≤ B) → ∀ k, (f0_readBack_lp tkv opv shv wyv bdv ct fev dnv n t b du u rov).2.2.2.2 k ≤ B := by
  intro n
  induction n with
  | zero =>
    intro t b du u rov h2 _ h3 k
    rcases Nat.lt_or_ge k u with q | q
    · exact h2 k (by omega)
    · exact h3 k q
  | succ n ih =>
    intro t b du u rov h2 hn h3
    unfold f0_readBack_lp
    refine ih _ _ _ _ _ (fun k hk => ?_) (by omega) (fun k hk => ?_)
    · rw [va_up_ne _ _ (by omega)]; exact h2 k (by omega)
    · by_cases e : k = u - 1
      · subst e; rw [va_up_self]; exact hfe _ (q0_ll h1)
      · rw [va_up_ne _ _ e]; exact h3 k (by omega)

def f2_add_lp  : Nat → Nat → (Nat → Nat) → Nat × (Nat → Nat)
  | 0, k, rov => (k, rov)
  | n + 1, k, rov => f2_add_lp  n (k + 1) (f2_swap_rov rov k (k + 1))
set_option maxRecDepth 100000 in
set_option maxHeartbeats 4000000 in
theorem lX2_add_lp {p : Program} {l : Launch} {e : Env} {R : Room} {s : State} {m : MethodId} {args : Array Value} {below : List Frame} {meth : Method} {c : Code} {cells slots : Nat} {Q : State → Prop} {A : Nat → Prop} {D : va_G} (xo : Nat) (nt : Nat) (es : Nat) (ro : Nat) (ad : Nat → Nat) (cI : ClassId) (cJ : ClassId) (cZ : ClassId) (ln : Int32) (fz : Nat) (sx : Bool) (mo : Int32) (sn : Nat) (bw : Int32) (tkv : Nat → Int64) (opv : Nat → Int64) (shv : Nat → Int64) (ldv : Nat → Int32) (wyv : Nat → Int64) (bdv : Nat → Bool) (ct : Nat) (dA : Nat) (sta : Nat) (stc : Int64) (fev : Nat → Nat) (dl : Nat) (dnv : Nat → Int64) (z : Nat) (pl : Nat) (rl : Nat) (hln : ln = nI rl) (hr20 : rl ≤ 20) (hR : 1 ≤ R.frames ∧ 23 ≤ R.locals) (hce : cells ≤ R.cells ∧ slots ≤ R.slots) (C : gz_C p s m args c cX2_add 4 RX2 D [(cI, .int), (cJ, .long), (cZ, .boolean)] A) : ∀ (n : Nat) (k : Nat) (rov : Nat → Nat), (k + 1 + n = rl) → (∀ r, r < rl → rov r ≤ 20) → ((((f2_add_lp  n k rov).1) + 1 + 0 = rl) → (∀ r, r < rl → ((f2_add_lp  n k rov).2) r ≤ 20) → GZ p l e R s m args below meth c 4 D A cells slots Q (wC xo nt es ro ad cI cJ cZ ln fz sx mo sn bw tkv opv shv ldv wyv bdv ct dA dA sta stc fev dl dnv ((f2_add_lp  n k rov).2)) [(0, .ref xo), (1, .int (nI z)), (2, .int (nI pl)), (3, .int (nI ((f2_add_lp  n k rov).1)))] [] 57) → GZ p l e R s m args below meth c 4 D A cells slots Q (wC xo nt es ro ad cI cJ cZ ln fz sx mo sn bw tkv opv shv ldv wyv bdv ct dA dA sta stc fev dl dnv rov) [(0, .ref xo), (1, .int (nI z)), (2, .int (nI pl)), (3, .int (nI k))] [] 33 := by
  intro n
  induction n with
  | zero =>
    intro k rov hme hro hx
    refine gz_iload_n C 3 dX2_add_33 rfl ?_
    refine gz_iconst (v := nI 1) C dX2_add_34 (by decide) ?_
    refine gz_iadd (v := nI (k + 1)) C dX2_add_35 (nI_add _ _) ?_
    refine gz_aload_n C 0 dX2_add_36 rfl ?_
    refine gz_get (ci := 3) C iwX2 0 rfl rfl 3 (by decide) wk_82 rfl rfl dX2_add_37 ?_
    refine gz_sw (v := .int ln) (w := .int (nI rl)) (by rw [hln]) ?_
    refine gz_ncmp_ge C 57 (by omega) (by omega) dX2_add_40 (by decide) (fun h_1 => ?_) (fun h_1 => ?_)
    · skip
      exact gz_lv [0, 1, 2, 3] rfl (hx hme hro)
    · have g_1 : ¬ (rl ≤ (k + 1)) := (Nat.not_le.mpr h_1)
      exfalso; omega
  | succ n ih =>
    intro k rov hme hro hx
    refine gz_iload_n C 3 dX2_add_33 rfl ?_
    refine gz_iconst (v := nI 1) C dX2_add_34 (by decide) ?_
    refine gz_iadd (v := nI (k + 1)) C dX2_add_35 (nI_add _ _) ?_
    refine gz_aload_n C 0 dX2_add_36 rfl ?_
    refine gz_get (ci := 3) C iwX2 0 rfl rfl 3 (by decide) wk_82 rfl rfl dX2_add_37 ?_
    refine gz_sw (v := .int ln) (w := .int (nI rl)) (by rw [hln]) ?_
    refine gz_ncmp_ge C 57 (by omega) (by omega) dX2_add_40 (by decide) (fun h_1 => ?_) (fun h_1 => ?_)
    · skip
      exfalso; omega
    · have g_1 : ¬ (rl ≤ (k + 1)) := (Nat.not_le.mpr h_1)
      refine gz_aload_n C 0 dX2_add_43 rfl ?_
      refine gz_iload_n C 3 dX2_add_44 rfl ?_
      refine gz_iload_n C 3 dX2_add_45 rfl ?_
      refine gz_iconst (v := nI 1) C dX2_add_46 (by decide) ?_
      refine gz_iadd (v := nI (k + 1)) C dX2_add_47 (nI_add _ _) ?_
      refine gz_callV (wr := []) (n := 2) (ws2 := (wC xo nt es ro ad cI cJ cZ ln fz sx mo sn bw tkv opv shv ldv wyv bdv ct dA dA sta stc fev dl dnv (f2_swap_rov rov k (k + 1)))) (st2 := []) (cells2 := cells) (slots2 := slots) (ci := 3) C (kX2_swap l D xo nt es ro ad cI cJ cZ ln fz sx mo sn bw tkv opv shv ldv wyv bdv ct dA sta stc fev dl dnv rov k (k + 1) (by first | assumption | omega) (by first | assumption | omega)) (WB_V wk_223 wk_225 ws_9 wk_1 wk_226) (by decide +kernel) ⟨⟨rfl, rfl⟩, Nat.le_trans (by decide) hR.1, Nat.le_trans (by decide) hR.2⟩ [0, 1, 2, 3, 4, 5, 6, 7, 8, 9, 10, 11] [] [0, 1, 2] rfl rfl rfl (by decide) rfl 0 rfl rfl rfl rfl (Nat.le_of_ble_eq_true rfl) dX2_add_48 hce rfl rfl rfl ?_
      refine gz_iinc (v := nI (k + 1)) (lv2 := [(3, .int (nI (k + 1))), (0, .ref xo), (1, .int (nI z)), (2, .int (nI pl))]) (k := 3) C dX2_add_51 rfl (nI_add _ 1) (by decide) rfl ?_
      refine gz_goto C 33 dX2_add_54 (by decide) ?_
      refine gz_lv [1, 2, 3, 0] rfl ?_
      simp only [f2_add_lp, if_neg g_1] at hx
      exact ih (k + 1) (f2_swap_rov rov k (k + 1)) (by omega) (q2_swap_le hro (by omega) (by omega)) hx

def f2_add (fz : Nat) (sn : Nat) (tkv : Nat → Int64) (opv : Nat → Int64) (shv : Nat → Int64) (wyv : Nat → Int64) (bdv : Nat → Bool) (rov : Nat → Nat) (x : Int32) (rl : Nat) : Int32 := (if (f1_isStop sn x) = true then (if (nI fz) ≤ ((f2_placeOf rov (cl x) rl)) then nI (f2_insert fz tkv opv shv wyv bdv ((f2_add_lp  (rl - (cl (f2_placeOf rov (cl x) rl)) - 1) (cl (f2_placeOf rov (cl x) rl)) rov).2) (cl x) (rl - 1)) else (-13)) else (-11))
def f2_add_sx (fz : Nat) (sx : Bool) (sn : Nat) (rov : Nat → Nat) (x : Int32) (rl : Nat) : Bool := (if (f1_isStop sn x) = true then (if (nI fz) ≤ ((f2_placeOf rov (cl x) rl)) then false else sx) else sx)
def f2_add_rov (fz : Nat) (sn : Nat) (tkv : Nat → Int64) (opv : Nat → Int64) (shv : Nat → Int64) (wyv : Nat → Int64) (bdv : Nat → Bool) (rov : Nat → Nat) (x : Int32) (rl : Nat) : Nat → Nat := (if (f1_isStop sn x) = true then (if (nI fz) ≤ ((f2_placeOf rov (cl x) rl)) then f2_insert_rov fz tkv opv shv wyv bdv ((f2_add_lp  (rl - (cl (f2_placeOf rov (cl x) rl)) - 1) (cl (f2_placeOf rov (cl x) rl)) rov).2) (cl x) (rl - 1) else rov) else rov)
set_option maxRecDepth 100000 in
set_option maxHeartbeats 4000000 in
theorem kX2_add (l : Launch) (D : va_G) (xo : Nat) (nt : Nat) (es : Nat) (ro : Nat) (ad : Nat → Nat) (cI : ClassId) (cJ : ClassId) (cZ : ClassId) (ln : Int32) (fz : Nat) (sx : Bool) (mo : Int32) (sn : Nat) (bw : Int32) (tkv : Nat → Int64) (opv : Nat → Int64) (shv : Nat → Int64) (ldv : Nat → Int32) (wyv : Nat → Int64) (bdv : Nat → Bool) (ct : Nat) (dA : Nat) (sta : Nat) (stc : Int64) (fev : Nat → Nat) (dl : Nat) (dnv : Nat → Int64) (rov : Nat → Nat) (x : Int32) (rl : Nat) (hsn : sn ≤ 20) (hln : ln = (-1) ∧ rl = 0 ∨ ln = nI rl) (hr20 : rl ≤ 20) (hro : ∀ k, k < rl → rov k ≤ 20) (hfz : fz ≤ 20) : gz_M l yX2_add cX2_add 4 (some .int) ({ frames := 4, cells := 0, slots := 0, locals := 104 } : Room) D [(cI, .int), (cJ, .long), (cZ, .boolean)] [.ref xo, .int x] (wC xo nt es ro ad cI cJ cZ ln fz sx mo sn bw tkv opv shv ldv wyv bdv ct dA dA sta stc fev dl dnv rov) (some (.int (f2_add fz sn tkv opv shv wyv bdv rov x rl))) (wC xo nt es ro ad cI cJ cZ ln fz (f2_add_sx fz sx sn rov x rl) mo sn bw tkv opv shv ldv wyv bdv ct dA dA sta stc fev dl dnv (f2_add_rov fz sn tkv opv shv wyv bdv rov x rl)) 0 0 := by
  refine gz_met l (by decide) (Nat.le_of_ble_eq_true rfl) [(0, .ref xo), (1, .int x)] rfl ?_
  intro sz p e s m args below meth c C hr hk hnm
  have C : gz_C p s m args c cX2_add 4 RX2 D [(cI, .int), (cJ, .long), (cZ, .boolean)] (va_A (wC xo nt es ro ad cI cJ cZ ln fz sx mo sn bw tkv opv shv ldv wyv bdv ct dA dA sta stc fev dl dnv rov) sz) := C
  refine gz_aload_n C 0 dX2_add_0 rfl ?_
  refine gz_get (ci := 3) C iwX2 0 rfl rfl 0 (by decide) wk_79 rfl rfl dX2_add_1 ?_
  refine gz_iload_n C 1 dX2_add_4 rfl ?_
  refine gz_callV (wr := []) (n := 1) (ws2 := (wC xo nt es ro ad cI cJ cZ ln fz sx mo sn bw tkv opv shv ldv wyv bdv ct dA dA sta stc fev dl dnv rov)) (st2 := [.int (bI (f1_isStop sn x))]) (cells2 := 0) (slots2 := 0) (ci := 2) C (kX1_isStop l D xo nt es ro ad cI cJ cZ ln fz sx mo sn bw tkv opv shv ldv wyv bdv ct dA sta stc fev dl dnv rov x (by first | assumption | omega)) (WB_V wk_137 wk_123 wk_124 wk_2 wk_125) (by decide +kernel) ⟨⟨rfl, rfl⟩, Nat.le_of_ble_eq_true rfl, Nat.le_of_ble_eq_true rfl⟩ [0, 1, 2, 3, 4, 5, 6, 7, 8, 9, 10, 11] [] [0, 1, 2] rfl rfl rfl (by decide) rfl 1 rfl rfl rfl rfl (Nat.le_of_ble_eq_true rfl) dX2_add_5 ⟨Nat.zero_le _, Nat.zero_le _⟩ rfl rfl rfl ?_
  refine gz_bif_ne C 14 dX2_add_8 (by decide) (fun h_1 => ?_) (fun h_1 => ?_)
  · skip
    obtain ⟨hx1, hx2, hx3⟩ := q1_stop h_1 hsn
    refine gz_lve (lv2 := [(0, .ref xo), (1, .int (nI (cl x)))]) (by rw [← hx1]) ?_
    refine gz_aload_n C 0 dX2_add_14 rfl ?_
    refine gz_iload_n C 1 dX2_add_15 rfl ?_
    refine gz_callV (wr := []) (n := 1) (ws2 := (wC xo nt es ro ad cI cJ cZ ln fz sx mo sn bw tkv opv shv ldv wyv bdv ct dA dA sta stc fev dl dnv rov)) (st2 := [.int (f2_placeOf rov (cl x) rl)]) (cells2 := 0) (slots2 := 0) (ci := 3) C (kX2_placeOf l D xo nt es ro ad cI cJ cZ ln fz sx mo sn bw tkv opv shv ldv wyv bdv ct dA sta stc fev dl dnv rov (cl x) rl (by first | assumption | omega) (by first | assumption | omega) (by first | assumption | omega) (by first | assumption | omega)) (WB_V wk_260 wk_262 ws_12 wk_1 wk_263) (by decide +kernel) ⟨⟨rfl, rfl⟩, Nat.le_of_ble_eq_true rfl, Nat.le_of_ble_eq_true rfl⟩ [0, 1, 2, 3, 4, 5, 6, 7, 8, 9, 10, 11] [] [0, 1, 2] rfl rfl rfl (by decide) rfl 0 rfl rfl rfl rfl (Nat.le_of_ble_eq_true rfl) dX2_add_16 ⟨Nat.zero_le _, Nat.zero_le _⟩ rfl rfl rfl ?_
    refine gz_istore_n (lv2 := [(2, .int (f2_placeOf rov (cl x) rl)), (0, .ref xo), (1, .int (nI (cl x)))]) C dX2_add_19 (by decide) rfl ?_
    refine gz_iload_n C 0 dX2_add_20 rfl ?_
    refine gz_aload_n C 1 dX2_add_21 rfl ?_
    refine gz_get (ci := 3) C iwX2 0 rfl rfl 4 (by decide) wk_83 rfl rfl dX2_add_22 ?_
    refine gz_icmp_ge C 31 dX2_add_25 (by decide) (fun h_2 => ?_) (fun h_2 => ?_)
    · skip
      obtain ⟨hp1, hp2, hp3, hp4⟩ := q2_place hr20 hfz h_2
      have hln9 : ln = nI rl := by rcases hln with ⟨_, z⟩ | z; (· omega); (· exact z)
      refine gz_lve (lv2 := [(2, .int (nI (cl (f2_placeOf rov (cl x) rl)))), (0, .ref xo), (1, .int (nI (cl x)))]) (by rw [← hp1]) ?_
      refine gz_iload_n C 0 dX2_add_31 rfl ?_
      refine gz_istore_n (lv2 := [(3, .int (nI (cl (f2_placeOf rov (cl x) rl)))), (2, .int (nI (cl (f2_placeOf rov (cl x) rl)))), (0, .ref xo), (1, .int (nI (cl x)))]) C dX2_add_32 (by decide) rfl ?_
      refine gz_lv (lv2 := [(0, .ref xo), (1, .int (nI (cl x))), (2, .int (nI (cl (f2_placeOf rov (cl x) rl)))), (3, .int (nI (cl (f2_placeOf rov (cl x) rl))))]) [2, 3, 1, 0] rfl ?_
      refine lX2_add_lp xo nt es ro ad cI cJ cZ ln fz sx mo sn bw tkv opv shv ldv wyv bdv ct dA sta stc fev dl dnv (cl x) (cl (f2_placeOf rov (cl x) rl)) rl hln9 (by first | assumption | omega) ⟨Nat.le_of_ble_eq_true rfl, Nat.le_of_ble_eq_true rfl⟩ ⟨Nat.zero_le _, Nat.zero_le _⟩ C (rl - (cl (f2_placeOf rov (cl x) rl)) - 1) (cl (f2_placeOf rov (cl x) rl)) rov (by omega) (by first | assumption | omega) ?_
      intro zme_lp zhro_lp
      refine gz_aload_n C 0 dX2_add_57 rfl ?_
      refine gz_iconst (v := nI 0) C dX2_add_58 (by decide) ?_
      refine gz_sw (v := .int (nI 0)) (w := .int (bI false)) (by rw [show nI 0 = bI false from (by first | rfl | decide | ((repeat' split) <;> rfl))]) ?_
      refine gz_put (ci := 3) (ws2 := (wC xo nt es ro ad cI cJ cZ ln fz false mo sn bw tkv opv shv ldv wyv bdv ct dA dA sta stc fev dl dnv ((f2_add_lp  (rl - (cl (f2_placeOf rov (cl x) rl)) - 1) (cl (f2_placeOf rov (cl x) rl)) rov).2))) C iwX2 0 rfl rfl 5 (by decide) wk_84 rfl tyX2 tyX2_ok nmX2 rfl rfl (bI_nar _) (bI_fit _) (Nat.le_of_ble_eq_true rfl) rfl dX2_add_59 ?_
      refine gz_aload_n C 0 dX2_add_62 rfl ?_
      refine gz_iload_n C 1 dX2_add_63 rfl ?_
      refine gz_aload_n C 0 dX2_add_64 rfl ?_
      refine gz_get (ci := 3) C iwX2 0 rfl rfl 3 (by decide) wk_82 rfl rfl dX2_add_65 ?_
      refine gz_sw (v := .int ln) (w := .int (nI rl)) (by rw [hln9]) ?_
      refine gz_iconst (v := nI 1) C dX2_add_68 (by decide) ?_
      refine gz_isub (v := nI (rl - 1)) C dX2_add_69 (pk_sub (by first | omega | exact Nat.one_le_two_pow)) ?_
      refine gz_callV (wr := []) (n := 2) (ws2 := (wC xo nt es ro ad cI cJ cZ ln fz false mo sn bw tkv opv shv ldv wyv bdv ct dA dA sta stc fev dl dnv (f2_insert_rov fz tkv opv shv wyv bdv ((f2_add_lp  (rl - (cl (f2_placeOf rov (cl x) rl)) - 1) (cl (f2_placeOf rov (cl x) rl)) rov).2) (cl x) (rl - 1)))) (st2 := [.int (nI (f2_insert fz tkv opv shv wyv bdv ((f2_add_lp  (rl - (cl (f2_placeOf rov (cl x) rl)) - 1) (cl (f2_placeOf rov (cl x) rl)) rov).2) (cl x) (rl - 1)))]) (cells2 := 0) (slots2 := 0) (ci := 3) C (kX2_insert l D xo nt es ro ad cI cJ cZ ln fz false mo sn bw tkv opv shv ldv wyv bdv ct dA sta stc fev dl dnv ((f2_add_lp  (rl - (cl (f2_placeOf rov (cl x) rl)) - 1) (cl (f2_placeOf rov (cl x) rl)) rov).2) (cl x) (rl - 1) (by first | assumption | omega) (by first | assumption | omega) (by first | assumption | omega) (fun k hk => zhro_lp k (by omega))) (WB_V wk_214 wk_216 ws_8 wk_1 wk_217) (by decide +kernel) ⟨⟨rfl, rfl⟩, Nat.le_of_ble_eq_true rfl, Nat.le_of_ble_eq_true rfl⟩ [0, 1, 2, 3, 4, 5, 6, 7, 8, 9, 10, 11] [] [0, 1, 2] rfl rfl rfl (by decide) rfl 0 rfl rfl rfl rfl (Nat.le_of_ble_eq_true rfl) dX2_add_70 ⟨Nat.zero_le _, Nat.zero_le _⟩ rfl rfl rfl ?_
      exact gz_iret C hr hk (by first | rfl | (simp only [f2_add, f2_add_sx, f2_add_rov, if_pos h_1, if_pos h_2]) | (simp only [f2_add, f2_add_sx, f2_add_rov, if_pos h_1, if_pos h_2]; rfl)) (by first | rfl | (simp only [f2_add, f2_add_sx, f2_add_rov, if_pos h_1, if_pos h_2]) | (simp only [f2_add, f2_add_sx, f2_add_rov, if_pos h_1, if_pos h_2]; rfl)) (Nat.le_refl _) (Nat.le_refl _) dX2_add_73
    · have g_2 : ¬ ((nI fz) ≤ ((f2_placeOf rov (cl x) rl))) := h_2
      refine gz_bipush (v := ((-13))) C dX2_add_28 (by decide) ?_
      exact gz_iret C hr hk (by first | rfl | (simp only [f2_add, f2_add_sx, f2_add_rov, if_pos h_1, if_neg g_2]) | (simp only [f2_add, f2_add_sx, f2_add_rov, if_pos h_1, if_neg g_2]; rfl)) (by first | rfl | (simp only [f2_add, f2_add_sx, f2_add_rov, if_pos h_1, if_neg g_2]) | (simp only [f2_add, f2_add_sx, f2_add_rov, if_pos h_1, if_neg g_2]; rfl)) (Nat.le_refl _) (Nat.le_refl _) dX2_add_30
  · have g_1 : ¬ ((f1_isStop sn x) = true) := (by rw [h_1]; decide)
    refine gz_bipush (v := ((-11))) C dX2_add_11 (by decide) ?_
    exact gz_iret C hr hk (by first | rfl | (simp only [f2_add, f2_add_sx, f2_add_rov, if_neg g_1]) | (simp only [f2_add, f2_add_sx, f2_add_rov, if_neg g_1]; rfl)) (by first | rfl | (simp only [f2_add, f2_add_sx, f2_add_rov, if_neg g_1]) | (simp only [f2_add, f2_add_sx, f2_add_rov, if_neg g_1]; rfl)) (Nat.le_refl _) (Nat.le_refl _) dX2_add_13

def f2_exchange (ln : Int32) (fz : Nat) (tkv : Nat → Int64) (opv : Nat → Int64) (shv : Nat → Int64) (wyv : Nat → Int64) (bdv : Nat → Bool) (rov : Nat → Nat) (x : Int32) (y : Int32) (rl : Nat) : Int32 := (if (f2_isPlace ln x) = true then (if (f2_isPlace ln y) = true then (if ln = (((-1))) then (-13) else (if (cl x) < fz then (-13) else (if (cl y) < fz then (-13) else (if (cl x) = (cl y) then (-13) else (if (f2_swapIfLess tkv opv shv wyv bdv rov (cl x) (cl y) (f1_cost tkv opv shv wyv bdv rov rl) rl) = true then nI 1 else nI 0))))) else (-11)) else (-11))
def f2_exchange_sx (ln : Int32) (fz : Nat) (sx : Bool) (tkv : Nat → Int64) (opv : Nat → Int64) (shv : Nat → Int64) (wyv : Nat → Int64) (bdv : Nat → Bool) (rov : Nat → Nat) (x : Int32) (y : Int32) (rl : Nat) : Bool := (if (f2_isPlace ln x) = true then (if (f2_isPlace ln y) = true then (if ln = (((-1))) then sx else (if (cl x) < fz then sx else (if (cl y) < fz then sx else (if (cl x) = (cl y) then sx else (if (f2_swapIfLess tkv opv shv wyv bdv rov (cl x) (cl y) (f1_cost tkv opv shv wyv bdv rov rl) rl) = true then false else sx))))) else sx) else sx)
def f2_exchange_rov (ln : Int32) (fz : Nat) (tkv : Nat → Int64) (opv : Nat → Int64) (shv : Nat → Int64) (wyv : Nat → Int64) (bdv : Nat → Bool) (rov : Nat → Nat) (x : Int32) (y : Int32) (rl : Nat) : Nat → Nat := (if (f2_isPlace ln x) = true then (if (f2_isPlace ln y) = true then (if ln = (((-1))) then rov else (if (cl x) < fz then rov else (if (cl y) < fz then rov else (if (cl x) = (cl y) then rov else (if (f2_swapIfLess tkv opv shv wyv bdv rov (cl x) (cl y) (f1_cost tkv opv shv wyv bdv rov rl) rl) = true then f2_swapIfLess_rov tkv opv shv wyv bdv rov (cl x) (cl y) (f1_cost tkv opv shv wyv bdv rov rl) rl else f2_swapIfLess_rov tkv opv shv wyv bdv rov (cl x) (cl y) (f1_cost tkv opv shv wyv bdv rov rl) rl))))) else rov) else rov)
set_option maxRecDepth 100000 in
set_option maxHeartbeats 4000000 in
theorem kX2_exchange (l : Launch) (D : va_G) (xo : Nat) (nt : Nat) (es : Nat) (ro : Nat) (ad : Nat → Nat) (cI : ClassId) (cJ : ClassId) (cZ : ClassId) (ln : Int32) (fz : Nat) (sx : Bool) (mo : Int32) (sn : Nat) (bw : Int32) (tkv : Nat → Int64) (opv : Nat → Int64) (shv : Nat → Int64) (ldv : Nat → Int32) (wyv : Nat → Int64) (bdv : Nat → Bool) (ct : Nat) (dA : Nat) (sta : Nat) (stc : Int64) (fev : Nat → Nat) (dl : Nat) (dnv : Nat → Int64) (rov : Nat → Nat) (x : Int32) (y : Int32) (rl : Nat) (hln : ln = (-1) ∧ rl = 0 ∨ ln = nI rl) (hr20 : rl ≤ 20) (hro : ∀ k, k < rl → rov k ≤ 20) (hfz : fz ≤ 20) : gz_M l yX2_exchange cX2_exchange 3 (some .int) ({ frames := 4, cells := 0, slots := 0, locals := 100 } : Room) D [(cI, .int), (cJ, .long), (cZ, .boolean)] [.ref xo, .int x, .int y] (wC xo nt es ro ad cI cJ cZ ln fz sx mo sn bw tkv opv shv ldv wyv bdv ct dA dA sta stc fev dl dnv rov) (some (.int (f2_exchange ln fz tkv opv shv wyv bdv rov x y rl))) (wC xo nt es ro ad cI cJ cZ ln fz (f2_exchange_sx ln fz sx tkv opv shv wyv bdv rov x y rl) mo sn bw tkv opv shv ldv wyv bdv ct dA dA sta stc fev dl dnv (f2_exchange_rov ln fz tkv opv shv wyv bdv rov x y rl)) 0 0 := by
  refine gz_met l (by decide) (Nat.le_of_ble_eq_true rfl) [(0, .ref xo), (1, .int x), (2, .int y)] rfl ?_
  intro sz p e s m args below meth c C hr hk hnm
  have C : gz_C p s m args c cX2_exchange 3 RX2 D [(cI, .int), (cJ, .long), (cZ, .boolean)] (va_A (wC xo nt es ro ad cI cJ cZ ln fz sx mo sn bw tkv opv shv ldv wyv bdv ct dA dA sta stc fev dl dnv rov) sz) := C
  refine gz_aload_n C 0 dX2_exchange_0 rfl ?_
  refine gz_iload_n C 1 dX2_exchange_1 rfl ?_
  refine gz_callV (wr := []) (n := 1) (ws2 := (wC xo nt es ro ad cI cJ cZ ln fz sx mo sn bw tkv opv shv ldv wyv bdv ct dA dA sta stc fev dl dnv rov)) (st2 := [.int (bI (f2_isPlace ln x))]) (cells2 := 0) (slots2 := 0) (ci := 3) C (kX2_isPlace l D xo nt es ro ad cI cJ cZ ln fz sx mo sn bw tkv opv shv ldv wyv bdv ct dA sta stc fev dl dnv rov x ) (WB_V wk_276 wk_278 ws_13 wk_1 wk_279) (by decide +kernel) ⟨⟨rfl, rfl⟩, Nat.le_of_ble_eq_true rfl, Nat.le_of_ble_eq_true rfl⟩ [0, 1, 2, 3, 4, 5, 6, 7, 8, 9, 10, 11] [] [0, 1, 2] rfl rfl rfl (by decide) rfl 0 rfl rfl rfl rfl (Nat.le_of_ble_eq_true rfl) dX2_exchange_2 ⟨Nat.zero_le _, Nat.zero_le _⟩ rfl rfl rfl ?_
  refine gz_bif_eq C 16 dX2_exchange_5 (by decide) (fun h_1 => ?_) (fun h_1 => ?_)
  · have g_1 : ¬ ((f2_isPlace ln x) = true) := (by rw [h_1]; decide)
    refine gz_bipush (v := ((-11))) C dX2_exchange_16 (by decide) ?_
    exact gz_iret C hr hk (by first | rfl | (simp only [f2_exchange, f2_exchange_sx, f2_exchange_rov, if_neg g_1]) | (simp only [f2_exchange, f2_exchange_sx, f2_exchange_rov, if_neg g_1]; rfl)) (by first | rfl | (simp only [f2_exchange, f2_exchange_sx, f2_exchange_rov, if_neg g_1]) | (simp only [f2_exchange, f2_exchange_sx, f2_exchange_rov, if_neg g_1]; rfl)) (Nat.le_refl _) (Nat.le_refl _) dX2_exchange_18
  · skip
    refine gz_aload_n C 0 dX2_exchange_8 rfl ?_
    refine gz_iload_n C 2 dX2_exchange_9 rfl ?_
    refine gz_callV (wr := []) (n := 1) (ws2 := (wC xo nt es ro ad cI cJ cZ ln fz sx mo sn bw tkv opv shv ldv wyv bdv ct dA dA sta stc fev dl dnv rov)) (st2 := [.int (bI (f2_isPlace ln y))]) (cells2 := 0) (slots2 := 0) (ci := 3) C (kX2_isPlace l D xo nt es ro ad cI cJ cZ ln fz sx mo sn bw tkv opv shv ldv wyv bdv ct dA sta stc fev dl dnv rov y ) (WB_V wk_276 wk_278 ws_13 wk_1 wk_279) (by decide +kernel) ⟨⟨rfl, rfl⟩, Nat.le_of_ble_eq_true rfl, Nat.le_of_ble_eq_true rfl⟩ [0, 1, 2, 3, 4, 5, 6, 7, 8, 9, 10, 11] [] [0, 1, 2] rfl rfl rfl (by decide) rfl 0 rfl rfl rfl rfl (Nat.le_of_ble_eq_true rfl) dX2_exchange_10 ⟨Nat.zero_le _, Nat.zero_le _⟩ rfl rfl rfl ?_
    refine gz_bif_ne C 19 dX2_exchange_13 (by decide) (fun h_2 => ?_) (fun h_2 => ?_)
    · skip
      refine gz_aload_n C 0 dX2_exchange_19 rfl ?_
      refine gz_get (ci := 3) C iwX2 0 rfl rfl 3 (by decide) wk_82 rfl rfl dX2_exchange_20 ?_
      refine gz_iconst (v := ((-1))) C dX2_exchange_23 (by decide) ?_
      refine gz_icmp_eq C 48 dX2_exchange_24 (by decide) (fun h_3 => ?_) (fun h_3 => ?_)
      · skip
        refine gz_bipush (v := ((-13))) C dX2_exchange_48 (by decide) ?_
        exact gz_iret C hr hk (by first | rfl | (simp only [f2_exchange, f2_exchange_sx, f2_exchange_rov, if_pos h_1, if_pos h_2, if_pos h_3]) | (simp only [f2_exchange, f2_exchange_sx, f2_exchange_rov, if_pos h_1, if_pos h_2, if_pos h_3]; rfl)) (by first | rfl | (simp only [f2_exchange, f2_exchange_sx, f2_exchange_rov, if_pos h_1, if_pos h_2, if_pos h_3]) | (simp only [f2_exchange, f2_exchange_sx, f2_exchange_rov, if_pos h_1, if_pos h_2, if_pos h_3]; rfl)) (Nat.le_refl _) (Nat.le_refl _) dX2_exchange_50
      · have g_3 : ¬ (ln = (((-1)))) := h_3
        have hln9 := q2_ln hln hr20 g_3
        obtain ⟨hx1, hx2⟩ := q2_isp h_1 hln9 g_3 hr20
        obtain ⟨hy1, hy2⟩ := q2_isp h_2 hln9 g_3 hr20
        refine gz_lve (lv2 := [(0, .ref xo), (1, .int (nI (cl x))), (2, .int y)]) (by rw [← hx1]) ?_
        refine gz_lve (lv2 := [(0, .ref xo), (1, .int (nI (cl x))), (2, .int (nI (cl y)))]) (by rw [← hy1]) ?_
        refine gz_iload_n C 1 dX2_exchange_27 rfl ?_
        refine gz_aload_n C 0 dX2_exchange_28 rfl ?_
        refine gz_get (ci := 3) C iwX2 0 rfl rfl 4 (by decide) wk_83 rfl rfl dX2_exchange_29 ?_
        refine gz_ncmp_lt C 48 (by omega) (by omega) dX2_exchange_32 (by decide) (fun h_4 => ?_) (fun h_4 => ?_)
        · skip
          refine gz_bipush (v := ((-13))) C dX2_exchange_48 (by decide) ?_
          exact gz_iret C hr hk (by first | rfl | (simp only [f2_exchange, f2_exchange_sx, f2_exchange_rov, if_pos h_1, if_pos h_2, if_neg g_3, if_pos h_4]) | (simp only [f2_exchange, f2_exchange_sx, f2_exchange_rov, if_pos h_1, if_pos h_2, if_neg g_3, if_pos h_4]; rfl)) (by first | rfl | (simp only [f2_exchange, f2_exchange_sx, f2_exchange_rov, if_pos h_1, if_pos h_2, if_neg g_3, if_pos h_4]) | (simp only [f2_exchange, f2_exchange_sx, f2_exchange_rov, if_pos h_1, if_pos h_2, if_neg g_3, if_pos h_4]; rfl)) (Nat.le_refl _) (Nat.le_refl _) dX2_exchange_50
        · have g_4 : ¬ ((cl x) < fz) := (Nat.not_lt.mpr h_4)
          refine gz_iload_n C 2 dX2_exchange_35 rfl ?_
          refine gz_aload_n C 0 dX2_exchange_36 rfl ?_
          refine gz_get (ci := 3) C iwX2 0 rfl rfl 4 (by decide) wk_83 rfl rfl dX2_exchange_37 ?_
          refine gz_ncmp_lt C 48 (by omega) (by omega) dX2_exchange_40 (by decide) (fun h_5 => ?_) (fun h_5 => ?_)
          · skip
            refine gz_bipush (v := ((-13))) C dX2_exchange_48 (by decide) ?_
            exact gz_iret C hr hk (by first | rfl | (simp only [f2_exchange, f2_exchange_sx, f2_exchange_rov, if_pos h_1, if_pos h_2, if_neg g_3, if_neg g_4, if_pos h_5]) | (simp only [f2_exchange, f2_exchange_sx, f2_exchange_rov, if_pos h_1, if_pos h_2, if_neg g_3, if_neg g_4, if_pos h_5]; rfl)) (by first | rfl | (simp only [f2_exchange, f2_exchange_sx, f2_exchange_rov, if_pos h_1, if_pos h_2, if_neg g_3, if_neg g_4, if_pos h_5]) | (simp only [f2_exchange, f2_exchange_sx, f2_exchange_rov, if_pos h_1, if_pos h_2, if_neg g_3, if_neg g_4, if_pos h_5]; rfl)) (Nat.le_refl _) (Nat.le_refl _) dX2_exchange_50
          · have g_5 : ¬ ((cl y) < fz) := (Nat.not_lt.mpr h_5)
            refine gz_iload_n C 1 dX2_exchange_43 rfl ?_
            refine gz_iload_n C 2 dX2_exchange_44 rfl ?_
            refine gz_ncmp_ne C 51 (by omega) (by omega) dX2_exchange_45 (by decide) (fun h_6 => ?_) (fun h_6 => ?_)
            · have g_6 : ¬ ((cl x) = (cl y)) := h_6
              refine gz_aload_n C 0 dX2_exchange_51 rfl ?_
              refine gz_iload_n C 1 dX2_exchange_52 rfl ?_
              refine gz_iload_n C 2 dX2_exchange_53 rfl ?_
              refine gz_aload_n C 0 dX2_exchange_54 rfl ?_
              refine gz_get (ci := 3) C iwX2 0 rfl rfl 0 (by decide) wk_79 rfl rfl dX2_exchange_55 ?_
              refine gz_aload_n C 0 dX2_exchange_58 rfl ?_
              refine gz_get (ci := 3) C iwX2 0 rfl rfl 2 (by decide) wk_81 rfl rfl dX2_exchange_59 ?_
              refine gz_aload_n C 0 dX2_exchange_62 rfl ?_
              refine gz_get (ci := 3) C iwX2 0 rfl rfl 3 (by decide) wk_82 rfl rfl dX2_exchange_63 ?_
              refine gz_sw (v := .int ln) (w := .int (nI rl)) (by rw [hln9]) ?_
              refine gz_callV (wr := []) (n := 2) (ws2 := (wC xo nt es ro ad cI cJ cZ ln fz sx mo sn bw tkv opv shv ldv wyv bdv ct dA dA sta stc fev dl dnv rov)) (st2 := [.long (f1_cost tkv opv shv wyv bdv rov rl), .int (nI (cl y)), .int (nI (cl x)), .ref xo]) (cells2 := 0) (slots2 := 0) (ci := 2) C (kX1_cost l D xo nt es ro ad cI cJ cZ ln fz sx mo sn bw tkv opv shv ldv wyv bdv ct dA sta stc fev dl dnv rov rl (by first | assumption | omega) (by first | assumption | omega)) (WB_V wk_218 wk_219 wk_220 wk_2 wk_221) (by decide +kernel) ⟨⟨rfl, rfl⟩, Nat.le_of_ble_eq_true rfl, Nat.le_of_ble_eq_true rfl⟩ [0, 1, 2, 3, 4, 5, 6, 7, 8, 9, 10, 11] [] [0, 1, 2] rfl rfl rfl (by decide) rfl 1 rfl rfl rfl rfl (Nat.le_of_ble_eq_true rfl) dX2_exchange_66 ⟨Nat.zero_le _, Nat.zero_le _⟩ rfl rfl rfl ?_
              refine gz_callV (wr := []) (n := 3) (ws2 := (wC xo nt es ro ad cI cJ cZ ln fz sx mo sn bw tkv opv shv ldv wyv bdv ct dA dA sta stc fev dl dnv (f2_swapIfLess_rov tkv opv shv wyv bdv rov (cl x) (cl y) (f1_cost tkv opv shv wyv bdv rov rl) rl))) (st2 := [.int (bI (f2_swapIfLess tkv opv shv wyv bdv rov (cl x) (cl y) (f1_cost tkv opv shv wyv bdv rov rl) rl))]) (cells2 := 0) (slots2 := 0) (ci := 3) C (kX2_swapIfLess l D xo nt es ro ad cI cJ cZ ln fz sx mo sn bw tkv opv shv ldv wyv bdv ct dA sta stc fev dl dnv rov (cl x) (cl y) (f1_cost tkv opv shv wyv bdv rov rl) rl hln9 (by first | assumption | omega) (by first | assumption | omega) (by first | assumption | omega) (by first | assumption | omega)) (WB_V wk_231 wk_233 ws_11 wk_1 wk_234) (by decide +kernel) ⟨⟨rfl, rfl⟩, Nat.le_of_ble_eq_true rfl, Nat.le_of_ble_eq_true rfl⟩ [0, 1, 2, 3, 4, 5, 6, 7, 8, 9, 10, 11] [] [0, 1, 2] rfl rfl rfl (by decide) rfl 0 rfl rfl rfl rfl (Nat.le_of_ble_eq_true rfl) dX2_exchange_69 ⟨Nat.zero_le _, Nat.zero_le _⟩ rfl rfl rfl ?_
              refine gz_bif_ne C 77 dX2_exchange_72 (by decide) (fun h_7 => ?_) (fun h_7 => ?_)
              · skip
                refine gz_aload_n C 0 dX2_exchange_77 rfl ?_
                refine gz_iconst (v := nI 0) C dX2_exchange_78 (by decide) ?_
                refine gz_sw (v := .int (nI 0)) (w := .int (bI false)) (by rw [show nI 0 = bI false from (by first | rfl | decide | ((repeat' split) <;> rfl))]) ?_
                refine gz_put (ci := 3) (ws2 := (wC xo nt es ro ad cI cJ cZ ln fz false mo sn bw tkv opv shv ldv wyv bdv ct dA dA sta stc fev dl dnv (f2_swapIfLess_rov tkv opv shv wyv bdv rov (cl x) (cl y) (f1_cost tkv opv shv wyv bdv rov rl) rl))) C iwX2 0 rfl rfl 5 (by decide) wk_84 rfl tyX2 tyX2_ok nmX2 rfl rfl (bI_nar _) (bI_fit _) (Nat.le_of_ble_eq_true rfl) rfl dX2_exchange_79 ?_
                refine gz_iconst (v := nI 1) C dX2_exchange_82 (by decide) ?_
                exact gz_iret C hr hk (by first | rfl | (simp only [f2_exchange, f2_exchange_sx, f2_exchange_rov, if_pos h_1, if_pos h_2, if_neg g_3, if_neg g_4, if_neg g_5, if_neg g_6, if_pos h_7]) | (simp only [f2_exchange, f2_exchange_sx, f2_exchange_rov, if_pos h_1, if_pos h_2, if_neg g_3, if_neg g_4, if_neg g_5, if_neg g_6, if_pos h_7]; rfl)) (by first | rfl | (simp only [f2_exchange, f2_exchange_sx, f2_exchange_rov, if_pos h_1, if_pos h_2, if_neg g_3, if_neg g_4, if_neg g_5, if_neg g_6, if_pos h_7]) | (simp only [f2_exchange, f2_exchange_sx, f2_exchange_rov, if_pos h_1, if_pos h_2, if_neg g_3, if_neg g_4, if_neg g_5, if_neg g_6, if_pos h_7]; rfl)) (Nat.le_refl _) (Nat.le_refl _) dX2_exchange_83
              · have g_7 : ¬ ((f2_swapIfLess tkv opv shv wyv bdv rov (cl x) (cl y) (f1_cost tkv opv shv wyv bdv rov rl) rl) = true) := (by rw [h_7]; decide)
                refine gz_iconst (v := nI 0) C dX2_exchange_75 (by decide) ?_
                exact gz_iret C hr hk (by first | rfl | (simp only [f2_exchange, f2_exchange_sx, f2_exchange_rov, if_pos h_1, if_pos h_2, if_neg g_3, if_neg g_4, if_neg g_5, if_neg g_6, if_neg g_7]) | (simp only [f2_exchange, f2_exchange_sx, f2_exchange_rov, if_pos h_1, if_pos h_2, if_neg g_3, if_neg g_4, if_neg g_5, if_neg g_6, if_neg g_7]; rfl)) (by first | rfl | (simp only [f2_exchange, f2_exchange_sx, f2_exchange_rov, if_pos h_1, if_pos h_2, if_neg g_3, if_neg g_4, if_neg g_5, if_neg g_6, if_neg g_7]) | (simp only [f2_exchange, f2_exchange_sx, f2_exchange_rov, if_pos h_1, if_pos h_2, if_neg g_3, if_neg g_4, if_neg g_5, if_neg g_6, if_neg g_7]; rfl)) (Nat.le_refl _) (Nat.le_refl _) dX2_exchange_76
            · skip
              refine gz_bipush (v := ((-13))) C dX2_exchange_48 (by decide) ?_
              exact gz_iret C hr hk (by first | rfl | (simp only [f2_exchange, f2_exchange_sx, f2_exchange_rov, if_pos h_1, if_pos h_2, if_neg g_3, if_neg g_4, if_neg g_5, if_pos h_6]) | (simp only [f2_exchange, f2_exchange_sx, f2_exchange_rov, if_pos h_1, if_pos h_2, if_neg g_3, if_neg g_4, if_neg g_5, if_pos h_6]; rfl)) (by first | rfl | (simp only [f2_exchange, f2_exchange_sx, f2_exchange_rov, if_pos h_1, if_pos h_2, if_neg g_3, if_neg g_4, if_neg g_5, if_pos h_6]) | (simp only [f2_exchange, f2_exchange_sx, f2_exchange_rov, if_pos h_1, if_pos h_2, if_neg g_3, if_neg g_4, if_neg g_5, if_pos h_6]; rfl)) (Nat.le_refl _) (Nat.le_refl _) dX2_exchange_50
    · have g_2 : ¬ ((f2_isPlace ln y) = true) := (by rw [h_2]; decide)
      refine gz_bipush (v := ((-11))) C dX2_exchange_16 (by decide) ?_
      exact gz_iret C hr hk (by first | rfl | (simp only [f2_exchange, f2_exchange_sx, f2_exchange_rov, if_pos h_1, if_neg g_2]) | (simp only [f2_exchange, f2_exchange_sx, f2_exchange_rov, if_pos h_1, if_neg g_2]; rfl)) (by first | rfl | (simp only [f2_exchange, f2_exchange_sx, f2_exchange_rov, if_pos h_1, if_neg g_2]) | (simp only [f2_exchange, f2_exchange_sx, f2_exchange_rov, if_pos h_1, if_neg g_2]; rfl)) (Nat.le_refl _) (Nat.le_refl _) dX2_exchange_18

