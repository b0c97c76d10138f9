/-- the class's state (first) and the reference's (then) tell the same -/
def Rel (ln : Int32) (fz : Nat) (mo : Int32) (sn : Nat) (bw : Int32) (tkv opv shv : Nat → Int64) (ldv : Nat → Int32) (wyv : Nat → Int64) (bdv : Nat → Bool) (dl : Nat) (rov : Nat → Nat) (snM : Nat) (tkvM opvM shvM : Nat → Int64) (ldvM : Nat → Int32) (lim : Int32) (wyvM : Nat → Int64) (bdvM : Nat → Bool) (isr : Bool) (rn : Nat) (rdv : Nat → Nat) (fzM : Nat) (icv : Nat → Nat) : Prop :=
  (snM = sn ∧ tkvM = tkv ∧ opvM = opv ∧ ldvM = ldv ∧ lim = mo ∧ wyvM = wyv ∧ bdvM = bdv ∧ fzM = fz) ∧ (sn ≤ 20 ∧ fz ≤ sn ∧ q_row fz sn icv ∧ ∀ i, i < fz → rov i = icv i) ∧ (xdat tkv opv shv shvM wyv ∧ (mo = (-1) ∨ ¬ mo < 0) ∧ bdv 0 = false ∧ bw = nI (f3_arc_lp bdv 441 0 0).1 ∧ ∀ i, sn < i → ldv i = 0) ∧
  (isr = false ∧ ln = (-1) ∨ isr = true ∧ ln = nI sn ∧ rn = sn ∧ q_row sn sn rdv ∧ ∀ j, j < sn → rov j = rdv j) ∧ (rn ≤ 20 ∧ ∀ k, k < rn → rdv k ≤ 20) ∧ ∃ dc, dc ≤ 11 ∧ dl = 2 ^ dc * dc
section REL
variable {ln : Int32} {fz : Nat} {mo : Int32} {sn : Nat} {bw : Int32} {tkv opv shv : Nat → Int64} {ldv : Nat → Int32} {wyv : Nat → Int64} {bdv : Nat → Bool} {dl : Nat} {rov : Nat → Nat} {snM : Nat} {tkvM opvM shvM : Nat → Int64} {ldvM : Nat → Int32} {lim : Int32} {wyvM : Nat → Int64} {bdvM : Nat → Bool} {isr : Bool} {rn : Nat} {rdv : Nat → Nat} {fzM : Nat} {icv : Nat → Nat}
theorem cl_m1 : cl (-1) = 0 := by decide
theorem rel_facts (h : Rel ln fz mo sn bw tkv opv shv ldv wyv bdv dl rov snM tkvM opvM shvM ldvM lim wyvM bdvM isr rn rdv fzM icv) :
    sn ≤ 20 ∧ snM ≤ 20 ∧ fz ≤ sn ∧ fzM ≤ snM ∧ fz ≤ 20 ∧ fzM ≤ 20 ∧ q_row fz sn rov ∧ q_row fzM snM icv ∧ dl ≤ 22528 ∧ (ln = (-1) ∧ cl ln = 0 ∨ ln = nI (cl ln)) ∧ cl ln ≤ 20 ∧ (∀ k, k < cl ln → rov k ≤ 20) ∧ rn ≤ 20 ∧ (∀ k, k < rn → rdv k ≤ 20) ∧ (isr = true → rn = snM) := by
  obtain ⟨⟨rfl, rfl, rfl, rfl, rfl, rfl, rfl, rfl⟩, ⟨h1, h2, h3, h4⟩, ⟨d1, d2, d3, d4, d5⟩, hr, ⟨e1, e2⟩, dc, k1, k2⟩ := h
  have hdl : dl ≤ 22528 := by
    rw [k2]
    exact Nat.le_trans (Nat.mul_le_mul (Nat.pow_le_pow_right (by decide) k1) k1) (by decide)
  refine ⟨h1, h1, h2, h2, by omega, by omega, qr_ext h4 h3, h3, hdl, ?_⟩
  rcases hr with ⟨r1, r2⟩ | ⟨r1, r2, r3, r4, r5⟩
  · subst r2
    exact ⟨Or.inl ⟨rfl, cl_m1⟩, by rw [cl_m1]; omega, fun k hk => by rw [cl_m1] at hk; omega, e1, e2, fun z => by rw [r1] at z; cases z⟩
  · have hcl : cl ln = snM := by rw [r2]; exact cl_nI (by omega)
    exact ⟨Or.inr (by rw [hcl]; exact r2), by omega, fun k hk => by rw [hcl] at hk; rw [r5 k hk]; have := (r4.1 k hk).2; omega, e1, e2, fun _ => r3⟩
/-- the same ways, by their two numbers -/
theorem re_limit (n : Int32) : f2_limit n = f3_limit n := rfl
theorem rl_limit (n : Int32) (h : Rel ln fz mo sn bw tkv opv shv ldv wyv bdv dl rov snM tkvM opvM shvM ldvM lim wyvM bdvM isr rn rdv fzM icv) : Rel ln fz (f2_limit_mo mo n) sn bw tkv opv shv ldv wyv bdv dl rov snM tkvM opvM shvM ldvM (f3_limit_lim lim n) wyvM bdvM isr rn rdv fzM icv := by
  obtain ⟨⟨rfl, rfl, rfl, rfl, rfl, rfl, rfl, rfl⟩, h2, ⟨d1, d2, d3, d4, d5⟩, h4⟩ := h
  refine ⟨⟨rfl, rfl, rfl, rfl, rfl, rfl, rfl, rfl⟩, h2, ⟨d1, ?_, d3, d4, d5⟩, h4⟩
  unfold f2_limit_mo
  by_cases c : (-1 : Int32) ≤ n
  · rw [if_pos c]
    by_cases e : n = -1
    · exact Or.inl e
    · refine Or.inr (fun z => e ?_)
      apply Int32.toInt_inj.mp
      have c' := Int32.le_iff_toInt_le.mp c
      have z' := Int32.lt_iff_toInt_lt.mp z
      have e1 : (-1 : Int32).toInt = -1 := by decide
      have e0 : (0 : Int32).toInt = 0 := by decide
      rw [e1] at c' ⊢
      rw [e0] at z'
      omega
  · rw [if_neg c]; exact d2
theorem ce_point {x : Int32} (hsn : sn ≤ 20) : f1_isPoint sn x = f3_isPlace sn x := by
  unfold f1_isPoint f1_isStop f3_isPlace
  by_cases c0 : x = 0
  · subst c0
    rw [if_pos rfl, if_neg (by decide), if_neg (nI_pos (by omega))]
  · rw [if_neg c0]
    by_cases c1 : x < 0
    · have c2 : x ≤ 0 := Int32.le_of_lt c1
      rw [if_pos c1, if_neg]
      rw [if_pos c2]; decide
    · have c2 : ¬ x ≤ 0 := fun z => by
        rcases Int32.lt_or_eq_of_le z with q | q
        · exact c1 q
        · exact c0 q
      rw [if_neg c1, if_neg c2]
      by_cases c3 : nI sn < x
      · rw [if_pos c3, if_neg (by decide)]
      · rw [if_neg c3, if_pos rfl]
theorem bnd_in5 {x : Int64} (h0 : ¬ x < 0) (h1 : ¬ 100000 < x) : bnd 100000 x := ⟨cN x, (cN_of h0 (Int64.not_lt.mp h1)).2, (cN_of h0 (Int64.not_lt.mp h1)).1⟩
theorem bnd_in6 {x : Int64} (h0 : ¬ x < 0) (h1 : x ≤ 1000000) : bnd 1000000 x := by
  obtain ⟨k, hk, rfl⟩ := pk_lOf h0
  exact ⟨k, (pk_lLE (b := 1000000) hk (by decide)).mp h1, rfl⟩
theorem bnd_up {B k : Nat} {f : Nat → Int64} {x : Int64} (h : ∀ i, bnd B (f i)) (hx : bnd B x) : ∀ i, bnd B (va_up f k x i) := fun i => by
  by_cases e : i = k
  · subst e; rw [va_up_self]; exact hx
  · rw [va_up_ne _ _ e]; exact h i
theorem qr_mono {n B B2 : Nat} {f : Nat → Nat} (h : q_row n B f) (hB : B ≤ B2) : q_row n B2 f := ⟨fun k hk => ⟨(h.1 k hk).1, Nat.le_trans (h.1 k hk).2 hB⟩, h.2⟩
theorem re_stop (ta tb tc : Int64) (h : Rel ln fz mo sn bw tkv opv shv ldv wyv bdv dl rov snM tkvM opvM shvM ldvM lim wyvM bdvM isr rn rdv fzM icv) : f2_stop sn ta tb tc = f3_stop snM ta tb tc := by
  obtain ⟨⟨rfl, -⟩, ⟨h1, -⟩, -⟩ := h
  unfold f2_stop f3_stop f2_isSeconds f1_append
  by_cases c1 : ta < 0
  · simp [c1]
  · by_cases c2 : (100000 : Int64) < ta
    · simp [c1, c2]
    · simp only [if_neg c1, if_neg c2, if_true]
      by_cases c3 : snM = 20
      · rw [if_neg (show ¬ snM < 20 by omega), if_pos c3]
      · rw [if_pos (show snM < 20 by omega), if_neg c3]
theorem rl_stop (ta tb tc : Int64) (h : Rel ln fz mo sn bw tkv opv shv ldv wyv bdv dl rov snM tkvM opvM shvM ldvM lim wyvM bdvM isr rn rdv fzM icv) : Rel (f2_stop_ln ln sn ta tb tc) fz mo (f2_stop_sn sn ta tb tc) bw (f2_stop_tkv sn tkv ta tb tc) (f2_stop_opv sn opv ta tb tc) (f2_stop_shv sn shv ta tb tc) ldv wyv bdv dl rov (f3_stop_sn snM ta tb tc) (f3_stop_tkv snM tkvM ta tb tc) (f3_stop_opv snM opvM ta tb tc) (f3_stop_shv snM shvM ta tb tc) ldvM lim wyvM bdvM (f3_stop_isr snM isr ta tb tc) rn rdv fzM icv := by
  unfold f2_stop_ln f2_stop_sn f2_stop_tkv f2_stop_opv f2_stop_shv f3_stop_sn f3_stop_tkv f3_stop_opv f3_stop_shv f3_stop_isr f2_isSeconds f1_append_sn f1_append_tkv f1_append_opv f1_append_shv
  by_cases c1 : ta < 0
  · simpa [c1] using h
  · by_cases c2 : (100000 : Int64) < ta
    · simpa [c1, c2] using h
    · by_cases c3 : tb < 0
      · simpa [c1, c2, c3] using h
      · by_cases c4 : tc < tb
        · simpa [c1, c2, c3, c4] using h
        · by_cases c5 : tc ≤ 1000000
          · by_cases c6 : sn < 20
            · obtain ⟨⟨rfl, rfl, rfl, rfl, rfl, rfl, rfl, rfl⟩, ⟨h1, h2, h3, h4⟩, ⟨⟨x1, x2, x3, x4, x5, x6, x7, x8⟩, d2, d3, d4, d5⟩, hr, he, hdc⟩ := h
              have c7 : ¬ snM = 20 := by omega
              simp only [if_neg c1, if_neg c2, if_neg c3, if_neg c4, if_pos c5, if_pos c6, if_neg c7, if_true]
              have b1 := bnd_in5 c1 c2
              have c8 : ¬ tc < 0 := fun z => c4 (Int64.lt_of_lt_of_le z (Int64.not_lt.mp c3))
              have b3 := bnd_in6 c8 c5
              have b2 : bnd 1000000 tb := bnd_in6 c3 (Int64.le_trans (Int64.not_lt.mp c4) c5)
              refine ⟨⟨rfl, rfl, rfl, rfl, rfl, rfl, rfl, rfl⟩, ⟨by omega, by omega, qr_mono h3 (by omega), h4⟩, ⟨⟨bnd_up x1 b1, bnd_up x2 b2, bnd_up x3 b3, fun i hi => ?_, x5, ?_, ?_, ?_⟩, d2, d3, d4, fun i hi => d5 i (by omega)⟩, Or.inl ⟨rfl, rfl⟩, he, hdc⟩
              · by_cases e : i = snM + 1
                · subst e; rw [va_up_self, va_up_self]
                · rw [va_up_ne _ _ e, va_up_ne _ _ e]; exact x4 i hi
              · rw [va_up_ne _ _ (by omega)]; exact x6
              · rw [va_up_ne _ _ (by omega)]; exact x7
              · rw [va_up_ne _ _ (by omega)]; exact x8
            · have c7 : snM = 20 := by obtain ⟨⟨rfl, -⟩, ⟨h1, -⟩, -⟩ := id h; omega
              simpa [c1, c2, c3, c4, c5, c6, c7] using h
          · simpa [c1, c2, c3, c4, c5] using h
theorem rl_way (a b : Int32) (t : Int64) (h : Rel ln fz mo sn bw tkv opv shv ldv wyv bdv dl rov snM tkvM opvM shvM ldvM lim wyvM bdvM isr rn rdv fzM icv) : Rel ln fz mo sn bw tkv opv shv ldv (f2_way_wyv sn wyv a b t) bdv dl rov snM tkvM opvM shvM ldvM lim (f3_way_wyv snM wyvM a b t) bdvM isr rn rdv fzM icv := by
  obtain ⟨⟨rfl, rfl, rfl, rfl, rfl, rfl, rfl, rfl⟩, ⟨h1, h2, h3, h4⟩, ⟨⟨x1, x2, x3, x4, x5, x6, x7, x8⟩, d2, d3, d4, d5⟩, hr⟩ := h
  unfold f2_way_wyv f3_way_wyv f2_isSeconds f1_tellWay_wyv
  rw [ce_point h1, ce_point h1]
  by_cases c1 : f3_isPlace snM a = true
  · by_cases c2 : f3_isPlace snM b = true
    · by_cases c3 : cl a = cl b
      · simp only [if_pos c1, if_pos c2, if_pos c3]
        exact ⟨⟨rfl, rfl, rfl, rfl, rfl, rfl, rfl, rfl⟩, ⟨h1, h2, h3, h4⟩, ⟨⟨x1, x2, x3, x4, x5, x6, x7, x8⟩, d2, d3, d4, d5⟩, hr⟩
      · by_cases c4 : t < 0
        · simp only [if_pos c1, if_pos c2, if_neg c3, if_pos c4, Bool.false_eq_true, if_false]
          exact ⟨⟨rfl, rfl, rfl, rfl, rfl, rfl, rfl, rfl⟩, ⟨h1, h2, h3, h4⟩, ⟨⟨x1, x2, x3, x4, x5, x6, x7, x8⟩, d2, d3, d4, d5⟩, hr⟩
        · by_cases c5 : (100000 : Int64) < t
          · have c6 : ¬ t ≤ 100000 := Int64.not_le.mpr c5
            simp only [if_pos c1, if_pos c2, if_neg c3, if_neg c4, if_pos c5, if_neg c6, Bool.false_eq_true, if_false]
            exact ⟨⟨rfl, rfl, rfl, rfl, rfl, rfl, rfl, rfl⟩, ⟨h1, h2, h3, h4⟩, ⟨⟨x1, x2, x3, x4, x5, x6, x7, x8⟩, d2, d3, d4, d5⟩, hr⟩
          · have c6 : t ≤ 100000 := Int64.not_lt.mp c5
            simp only [if_pos c1, if_pos c2, if_neg c3, if_neg c4, if_neg c5, if_pos c6, if_true]
            rw [Nat.mul_comm (cl a) 21]
            exact ⟨⟨rfl, rfl, rfl, rfl, rfl, rfl, rfl, rfl⟩, ⟨h1, h2, h3, h4⟩, ⟨⟨x1, x2, x3, x4, bnd_up x5 (bnd_in5 c4 c5), x6, x7, x8⟩, d2, d3, d4, d5⟩, hr⟩
    · simp only [if_pos c1, if_neg c2]
      exact ⟨⟨rfl, rfl, rfl, rfl, rfl, rfl, rfl, rfl⟩, ⟨h1, h2, h3, h4⟩, ⟨⟨x1, x2, x3, x4, x5, x6, x7, x8⟩, d2, d3, d4, d5⟩, hr⟩
  · simp only [if_neg c1]
    exact ⟨⟨rfl, rfl, rfl, rfl, rfl, rfl, rfl, rfl⟩, ⟨h1, h2, h3, h4⟩, ⟨⟨x1, x2, x3, x4, x5, x6, x7, x8⟩, d2, d3, d4, d5⟩, hr⟩
theorem ce_loads_z : ∀ (n : Nat) (u : Int32) (k : Nat), (∀ i, k ≤ i → ldv i = 0) → (f3_allLoads_lp ldv n u k).1 = u := by
  intro n
  induction n with
  | zero => intro u k _; rfl
  | succ n ih =>
    intro u k h
    unfold f3_allLoads_lp
    rw [ih _ _ (fun i hi => h i (by omega)), h k (Nat.le_refl _), Int32.add_zero]
theorem ce_loads_lp : ∀ (n m : Nat) (u : Int32) (k : Nat), (∀ i, k + n ≤ i → ldv i = 0) → (f1_loads_lp ldv n u k).1 = (f3_allLoads_lp ldv (n + m) u k).1 := by
  intro n
  induction n with
  | zero =>
    intro m u k h
    rw [Nat.zero_add, ce_loads_z m u k (fun i hi => h i (by omega))]; rfl
  | succ n ih =>
    intro m u k h
    have e : n + 1 + m = (n + m) + 1 := by omega
    rw [e]
    unfold f1_loads_lp f3_allLoads_lp
    exact ih m _ _ (fun i hi => h i (by omega))
theorem ce_loads (hsn : sn ≤ 20) (h : ∀ i, sn < i → ldv i = 0) : f1_loads sn ldv = f3_allLoads ldv := by
  unfold f1_loads f3_allLoads
  have e : sn + (20 - sn) = 20 := by omega
  rw [ce_loads_lp sn (20 - sn) _ _ (fun i hi => h i (by omega)), e]
theorem rl_load (x y : Int32) (h : Rel ln fz mo sn bw tkv opv shv ldv wyv bdv dl rov snM tkvM opvM shvM ldvM lim wyvM bdvM isr rn rdv fzM icv) : Rel ln fz mo sn bw tkv opv shv (f2_load_ldv sn ldv x y) wyv bdv dl rov snM tkvM opvM shvM (f3_load_ldv snM ldvM x y) lim wyvM bdvM isr rn rdv fzM icv := by
  obtain ⟨⟨rfl, rfl, rfl, rfl, rfl, rfl, rfl, rfl⟩, ⟨h1, h2, h3, h4⟩, ⟨d1, d2, d3, d4, d5⟩, hr⟩ := h
  have e : f2_load_ldv snM ldvM x y = f3_load_ldv snM ldvM x y := rfl
  rw [e]
  refine ⟨⟨rfl, rfl, rfl, rfl, rfl, rfl, rfl, rfl⟩, ⟨h1, h2, h3, h4⟩, ⟨d1, d2, d3, d4, fun i hi => ?_⟩, hr⟩
  unfold f3_load_ldv
  by_cases c1 : f3_isStop snM x = true
  · rw [if_pos c1]
    obtain ⟨_, q2, q3⟩ := q3_stop c1 h1
    split
    · exact d5 i hi
    · split
      · rw [va_up_ne _ _ (by omega)]; exact d5 i hi
      · exact d5 i hi
  · rw [if_neg c1]; exact d5 i hi
theorem re_load (x y : Int32) (h : Rel ln fz mo sn bw tkv opv shv ldv wyv bdv dl rov snM tkvM opvM shvM ldvM lim wyvM bdvM isr rn rdv fzM icv) : f2_load sn ldv x y = f3_load snM ldvM x y := by
  have h9 := rl_load x y h
  obtain ⟨⟨rfl, rfl, rfl, rfl, rfl, rfl, rfl, rfl⟩, ⟨h1, -⟩, -⟩ := h
  obtain ⟨-, -, ⟨-, -, -, -, d5⟩, -⟩ := h9
  unfold f2_load f3_load
  have e0 : f1_isStop snM x = f3_isStop snM x := rfl
  rw [e0]
  by_cases c1 : f3_isStop snM x = true
  · rw [if_pos c1, if_pos c1]
    by_cases c2 : y < 0
    · rw [if_pos c2, if_pos c2]
    · rw [if_neg c2, if_neg c2]
      by_cases c3 : y ≤ nI 1000
      · rw [if_pos c3, if_pos c3]
        have e2 : f2_load_ldv snM ldvM x y = f1_tellLoad_ldv ldvM (cl x) y := by
          unfold f2_load_ldv
          rw [e0, if_pos c1, if_neg c2, if_pos c3]
        rw [e2] at d5
        exact ce_loads h1 d5
      · rw [if_neg c3, if_neg c3]
  · rw [if_neg c1, if_neg c1]
theorem q3_frz_lp : ∀ (n k : Nat) (icv : Nat → Nat) (j : Nat), (f3_freeze_lp rdv n k icv).2 j = if k ≤ j ∧ j < k + n then rdv j else icv j := by
  intro n
  induction n with
  | zero => intro k icv j; rw [if_neg (by omega)]; rfl
  | succ n ih =>
    intro k icv j
    unfold f3_freeze_lp
    rw [ih]
    by_cases h1 : k + 1 ≤ j ∧ j < k + 1 + n
    · rw [if_pos h1, if_pos (by omega)]
    · rw [if_neg h1]
      by_cases h2 : j = k
      · subst h2; rw [if_pos (by omega), va_up_self]
      · rw [if_neg (by omega), va_up_ne _ _ h2]
theorem nI_ne_m1 (hsn : sn ≤ 20) : ¬ nI sn = (-1) := fun z => by
  have h := nI_pos (n := sn) (by omega)
  rw [z] at h; exact h (by decide)
theorem re_freeze (y : Int32) (h : Rel ln fz mo sn bw tkv opv shv ldv wyv bdv dl rov snM tkvM opvM shvM ldvM lim wyvM bdvM isr rn rdv fzM icv) : f2_freeze ln y = f3_freeze isr rn y := by
  obtain ⟨⟨rfl, rfl, rfl, rfl, rfl, rfl, rfl, rfl⟩, ⟨h1, h2, h3, h4⟩, -, hr, -⟩ := h
  unfold f2_freeze f3_freeze
  by_cases c1 : y < 0
  · rw [if_pos c1, if_pos c1]
  · rw [if_neg c1, if_neg c1]
    rcases hr with ⟨r1, r2⟩ | ⟨r1, r2, r3, r4, r5⟩
    · subst r1; subst r2; rw [if_pos rfl, if_neg (by decide)]
    · subst r1; subst r3
      rw [if_neg (by rw [r2]; exact nI_ne_m1 h1), if_pos rfl, r2]
theorem rl_freeze (y : Int32) (h : Rel ln fz mo sn bw tkv opv shv ldv wyv bdv dl rov snM tkvM opvM shvM ldvM lim wyvM bdvM isr rn rdv fzM icv) : Rel ln (f2_freeze_fz ln fz y) mo sn bw tkv opv shv ldv wyv bdv dl rov snM tkvM opvM shvM ldvM lim wyvM bdvM isr rn rdv (f3_freeze_fz isr rn fzM y) (f3_freeze_icv isr rn rdv icv y) := by
  obtain ⟨⟨rfl, rfl, rfl, rfl, rfl, rfl, rfl, rfl⟩, ⟨h1, h2, h3, h4⟩, hd, hr, he⟩ := h
  unfold f2_freeze_fz f3_freeze_fz f3_freeze_icv
  by_cases c1 : y < 0
  · simp only [if_pos c1]
    exact ⟨⟨rfl, rfl, rfl, rfl, rfl, rfl, rfl, rfl⟩, ⟨h1, h2, h3, h4⟩, hd, hr, he⟩
  · simp only [if_neg c1]
    rcases hr with ⟨r1, r2⟩ | ⟨r1, r2, r3, r4, r5⟩
    · subst r1; subst r2
      simp only [if_true, Bool.false_eq_true, if_false]
      exact ⟨⟨rfl, rfl, rfl, rfl, rfl, rfl, rfl, rfl⟩, ⟨h1, h2, h3, h4⟩, hd, Or.inl ⟨rfl, rfl⟩, he⟩
    · subst r1; subst r3
      have n1 : ¬ ln = (-1) := by rw [r2]; exact nI_ne_m1 h1
      rw [if_neg n1]
      by_cases c2 : y ≤ nI rn
      · have c3 : y ≤ ln := by rw [r2]; exact c2
        simp only [if_pos c3, if_pos c2, if_true]
        have hy := cl_lep c1 c2 (by omega)
        have hi : ∀ i, i < cl y → (f3_freeze_lp rdv (cl y) 0 icv).2 i = rdv i := fun i hi => by rw [q3_frz_lp, if_pos (by omega)]
        exact ⟨⟨rfl, rfl, rfl, rfl, rfl, rfl, rfl, rfl⟩, ⟨h1, hy, qr_ext hi ⟨fun k hk => r4.1 k (by omega), fun i j hi hj => r4.2 i j (by omega) (by omega)⟩, fun i hi2 => by rw [hi i hi2]; exact r5 i (by omega)⟩, hd, Or.inr ⟨rfl, r2, rfl, r4, r5⟩, he⟩
      · have c3 : ¬ y ≤ ln := by rw [r2]; exact c2
        simp only [if_neg c3, if_neg c2, if_true]
        exact ⟨⟨rfl, rfl, rfl, rfl, rfl, rfl, rfl, rfl⟩, ⟨h1, h2, h3, h4⟩, hd, Or.inr ⟨rfl, r2, rfl, r4, r5⟩, he⟩
/-- counting what is barred -/
theorem q3_cnt_up {f : Nat → Bool} {q : Nat} {v : Bool} : ∀ (n u k : Nat), (f3_arc_lp (va_up f q v) n u k).1 + (if k ≤ q ∧ q < k + n ∧ f q = true then 1 else 0) = (f3_arc_lp f n u k).1 + (if k ≤ q ∧ q < k + n ∧ v = true then 1 else 0) := by
  intro n
  induction n with
  | zero => intro u k; rw [if_neg (by omega), if_neg (by omega)]; rfl
  | succ n ih =>
    intro u k
    unfold f3_arc_lp
    by_cases e : k = q
    · subst e
      rw [va_up_self]
      have key : ∀ (w : Nat), (f3_arc_lp (va_up f k v) n w (k + 1)).1 = (f3_arc_lp f n w (k + 1)).1 := fun w => by
        have := ih w (k + 1)
        rw [if_neg (by omega), if_neg (by omega)] at this
        exact this
      have add : ∀ (g : Nat → Bool) (n w k : Nat), (f3_arc_lp g n (w + 1) k).1 = (f3_arc_lp g n w k).1 + 1 := by
        intro g n
        induction n with
        | zero => intro w k; rfl
        | succ n ih2 =>
          intro w k
          unfold f3_arc_lp
          by_cases c : g k = true
          · rw [if_pos c, if_pos c]; exact ih2 _ _
          · rw [if_neg c, if_neg c]; exact ih2 _ _
      rw [key]
      cases v <;> cases hf : f k <;> simp [add]
    · rw [va_up_ne _ _ e]
      have := ih (if f k = true then u + 1 else u) (k + 1)
      have e1 : (k + 1 ≤ q ∧ q < k + 1 + n ∧ f q = true) ↔ (k ≤ q ∧ q < k + (n + 1) ∧ f q = true) := by constructor <;> (rintro ⟨a, b, c⟩; exact ⟨by omega, by omega, c⟩)
      have e2 : (k + 1 ≤ q ∧ q < k + 1 + n ∧ v = true) ↔ (k ≤ q ∧ q < k + (n + 1) ∧ v = true) := by constructor <;> (rintro ⟨a, b, c⟩; exact ⟨by omega, by omega, c⟩)
      simp only [e1, e2] at this
      exact this
theorem q3_cnt_le {f : Nat → Bool} : ∀ (n u k : Nat), (f3_arc_lp f n u k).1 ≤ u + n := by
  intro n
  induction n with
  | zero => intro u k; exact Nat.le_refl _
  | succ n ih =>
    intro u k
    unfold f3_arc_lp
    split
    · have := ih (u + 1) (k + 1); omega
    · have := ih u (k + 1); omega
theorem ce_bar {q : Nat} (hq : q < 441) {v : Bool} (hb : bw = nI (f3_arc_lp bdv 441 0 0).1) {a b : Nat} (e : a * 21 + b = q) : f1_bar_bw bw bdv a b v = nI (f3_arc_lp (va_up bdv q v) 441 0 0).1 ∧ f1_bar_bdv bdv a b v = va_up bdv q v := by
  unfold f1_bar_bw f1_bar_bdv
  rw [e]
  have hc := q3_cnt_up (f := bdv) (q := q) (v := v) 441 0 0
  have hle := q3_cnt_le (f := bdv) 441 0 0
  have hbI : bI (bdv q) = bI v ↔ bdv q = v := by cases bdv q <;> cases v <;> decide
  by_cases c : bdv q = v
  · rw [if_pos (hbI.mpr c), if_pos (hbI.mpr c)]
    have e2 : va_up bdv q v = bdv := by
      funext j
      by_cases z : j = q
      · subst z; rw [va_up_self]; exact c.symm
      · rw [va_up_ne _ _ z]
    rw [e2]; exact ⟨hb, rfl⟩
  · rw [if_neg (fun z => c (hbI.mp z)), if_neg (fun z => c (hbI.mp z))]
    refine ⟨?_, rfl⟩
    rw [hb]
    cases v with
    | true =>
      have c2 : bdv q = false := by cases hh : bdv q <;> simp_all
      rw [c2, if_neg (by simp), if_pos ⟨by omega, by omega, rfl⟩] at hc
      rw [if_pos rfl, Nat.add_zero] at *
      rw [hc]; exact (nI_add _ 1)
    | false =>
      have c2 : bdv q = true := by cases hh : bdv q <;> simp_all
      rw [c2, if_pos ⟨by omega, by omega, rfl⟩, if_neg (by simp)] at hc
      rw [if_neg (by decide)]
      have h2 : (f3_arc_lp bdv 441 0 0).1 = (f3_arc_lp (va_up bdv q false) 441 0 0).1 + 1 := by omega
      rw [h2, ← nI_add _ 1]
      show nI _ + nI 1 + (-1) = _
      rw [Int32.add_assoc]
      have : nI 1 + (-1) = 0 := by decide
      rw [this, Int32.add_zero]
theorem rl_arc' (a b y : Int32) (h : Rel ln fz mo sn bw tkv opv shv ldv wyv bdv dl rov snM tkvM opvM shvM ldvM lim wyvM bdvM isr rn rdv fzM icv) : Rel ln fz mo sn (f2_arc_bw sn bw bdv a b y) tkv opv shv ldv wyv (f2_arc_bdv sn bdv a b y) dl rov snM tkvM opvM shvM ldvM lim wyvM (f3_arc_bdv snM bdvM a b y) isr rn rdv fzM icv ∧ f2_arc sn bw bdv a b y = f3_arc snM bdvM a b y := by
  have h0 := h
  obtain ⟨⟨rfl, rfl, rfl, rfl, rfl, rfl, rfl, rfl⟩, ⟨h1, h2, h3, h4⟩, ⟨d1, d2, d3, d4, d5⟩, hr⟩ := h
  unfold f2_arc_bw f2_arc_bdv f3_arc_bdv f2_arc f3_arc
  rw [ce_point h1, ce_point h1]
  by_cases c1 : f3_isPlace snM a = true
  · by_cases c2 : f3_isPlace snM b = true
    · by_cases c3 : y < 0
      · simp only [if_pos c1, if_pos c2, if_pos c3]; exact ⟨h0, trivial⟩
      · by_cases c4 : nI 1 < y
        · simp only [if_pos c1, if_pos c2, if_neg c3, if_pos c4]; exact ⟨h0, trivial⟩
        · by_cases c5 : cl a = cl b
          · simp only [if_pos c1, if_pos c2, if_neg c3, if_neg c4, if_pos c5]; exact ⟨h0, trivial⟩
          · simp only [if_pos c1, if_pos c2, if_neg c3, if_neg c4, if_neg c5]
            obtain ⟨_, a2⟩ := q3_place c1 h1
            obtain ⟨_, b2⟩ := q3_place c2 h1
            have hbar := ce_bar (q := 21 * cl a + cl b) (by omega) (v := if y = 0 then true else false) d4 (a := cl a) (b := cl b) (by omega)
            rw [hbar.1, hbar.2]
            refine ⟨⟨⟨rfl, rfl, rfl, rfl, rfl, rfl, rfl, rfl⟩, ⟨h1, h2, h3, h4⟩, ⟨d1, d2, ?_, rfl, d5⟩, hr⟩, hbar.1⟩
            rw [va_up_ne _ _ (by omega)]; exact d3
    · simp only [if_pos c1, if_neg c2]; exact ⟨h0, trivial⟩
  · simp only [if_neg c1]; exact ⟨h0, trivial⟩
theorem rl_arc (a b y : Int32) (h : Rel ln fz mo sn bw tkv opv shv ldv wyv bdv dl rov snM tkvM opvM shvM ldvM lim wyvM bdvM isr rn rdv fzM icv) : Rel ln fz mo sn (f2_arc_bw sn bw bdv a b y) tkv opv shv ldv wyv (f2_arc_bdv sn bdv a b y) dl rov snM tkvM opvM shvM ldvM lim wyvM (f3_arc_bdv snM bdvM a b y) isr rn rdv fzM icv := (rl_arc' a b y h).1
theorem re_arc (a b y : Int32) (h : Rel ln fz mo sn bw tkv opv shv ldv wyv bdv dl rov snM tkvM opvM shvM ldvM lim wyvM bdvM isr rn rdv fzM icv) : f2_arc sn bw bdv a b y = f3_arc snM bdvM a b y := (rl_arc' a b y h).2
end REL


section RS1
variable {tkv opv shv shm wyv : Nat → Int64} {bdv : Nat → Bool}
/-- the office's own UNTIL never matters in a row of stops -/
theorem ce_put1 {co pl x : Nat} {g : Nat → Nat} (hp : pl ≤ co) (hx : 1 ≤ x) (hg : ∀ j, j < co → 1 ≤ g j) : ∀ j, j < co + 1 → 1 ≤ f3_putIn_rov co g pl x j := by
  intro j hj
  rw [q3_putIn hp]
  by_cases c1 : j = pl
  · rw [if_pos c1]; exact hx
  · rw [if_neg c1]
    by_cases c2 : pl < j ∧ j ≤ co
    · rw [if_pos c2]; exact hg _ (by omega)
    · rw [if_neg c2]; exact hg _ (by omega)
theorem ce_putc {co pl x : Nat} {f g : Nat → Nat} (hp : pl ≤ co) (h2 : ∀ j, j < co → f j = g j) : ∀ j, j < co + 1 → f3_putIn_rov co f pl x j = f3_putIn_rov co g pl x j := by
  intro j hj
  rw [q3_putIn hp, q3_putIn hp]
  by_cases c1 : j = pl
  · rw [if_pos c1, if_pos c1]
  · rw [if_neg c1, if_neg c1]
    by_cases c2 : pl < j ∧ j ≤ co
    · rw [if_pos c2, if_pos c2]; exact h2 _ (by omega)
    · rw [if_neg c2, if_neg c2]; exact h2 _ (by omega)
theorem ce_ins_s {co x fz : Nat} (hs : ∀ i, 1 ≤ i → shv i = shm i) (hx : 1 ≤ x) (hco : co ≤ 19) : ∀ (n : Nat) (ch : Int32) (lst : Int64) (pl : Nat) (f g : Nat → Nat), pl + n = co + 1 → (∀ j, j < co → f j = g j) → (∀ j, j < co → 1 ≤ g j) →
    (f3_insert_lp tkv opv shv wyv bdv co x n ch lst pl f).1 = (f3_insert_lp tkv opv shm wyv bdv co x n ch lst pl g).1 := by
  intro n
  induction n with
  | zero => intro ch lst pl f g _ _ _; rfl
  | succ n ih =>
    intro ch lst pl f g h1 h2 h3
    unfold f3_insert_lp
    have hm : f3_measure tkv opv shv wyv bdv (f3_putIn_rs co) (f3_putIn_rov co f pl x) = f3_measure tkv opv shm wyv bdv (f3_putIn_rs co) (f3_putIn_rov co g pl x) :=
      ce_meas (N := co + 1) (ce_putc (by omega) h2) (fun j hj => hs _ (ce_put1 (by omega) hx h3 j hj))
    rw [hm]
    have e1 : ∀ j, j < co → f3_takeOut_rov (f3_putIn_rs co) (f3_putIn_rov co g pl x) pl j = g j := fun j hj => by
      rw [show f3_putIn_rs co = co + 1 from rfl, q3_tp (by omega) hj]
    refine ih _ _ _ _ _ (by omega) (fun j hj => ?_) (fun j hj => by rw [e1 j hj]; exact h3 j hj)
    rw [e1 j hj, show f3_putIn_rs co = co + 1 from rfl, q3_tp (by omega) hj]
    exact h2 j hj
theorem ce_ins_rs {co x fz : Nat} {r r2 : Nat → Nat} (hs : ∀ i, 1 ≤ i → shv i = shm i) (hx : 1 ≤ x) (hco : co ≤ 19) (hfz : fz ≤ co) (h : ∀ j, j < co → r j = r2 j) (h3 : ∀ j, j < co → 1 ≤ r2 j) : f3_insert tkv opv shv wyv bdv fz co r x = f3_insert tkv opv shm wyv bdv fz co r2 x ∧ (∀ j, j < co + 1 → f3_insert_rov tkv opv shv wyv bdv fz co r x j = f3_insert_rov tkv opv shm wyv bdv fz co r2 x j) ∧ ∀ j, j < co + 1 → 1 ≤ f3_insert_rov tkv opv shm wyv bdv fz co r2 x j := by
  have e := ce_ins_s (tkv := tkv) (opv := opv) (wyv := wyv) (bdv := bdv) (fz := fz) hs hx hco (co + 1 - fz) (-1) 0 fz r r2 (by omega) h h3
  obtain ⟨g1, k1⟩ := q3_ins_lp (tkv := tkv) (opv := opv) (shv := shv) (wyv := wyv) (bdv := bdv) (x := x) hco hfz r (co + 1 - fz) (-1) 0 fz r (by omega) (Nat.le_refl _) (Or.inl ⟨by decide, rfl⟩) (fun _ _ => rfl)
  obtain ⟨g2, k2⟩ := q3_ins_lp (tkv := tkv) (opv := opv) (shv := shm) (wyv := wyv) (bdv := bdv) (x := x) hco hfz r2 (co + 1 - fz) (-1) 0 fz r2 (by omega) (Nat.le_refl _) (Or.inl ⟨by decide, rfl⟩) (fun _ _ => rfl)
  have hp : cl (f3_insert_lp tkv opv shm wyv bdv co x (co + 1 - fz) (-1) 0 fz r2).1 ≤ co := by
    rcases g2 with z | z
    · omega
    · exact z.2.2
  refine ⟨by unfold f3_insert; rw [e], fun j hj => ?_, fun j hj => ?_⟩
  · unfold f3_insert_rov
    rw [e]
    exact ce_putc hp (fun i hi => by rw [k1 i hi, k2 i hi]; exact h i hi) j hj
  · unfold f3_insert_rov
    exact ce_put1 hp hx (fun i hi => by rw [k2 i hi]; exact h3 i hi) j hj
theorem ce_s3_s {fz : Nat} {fe fe2 : Nat → Nat} (hs : ∀ i, 1 ≤ i → shv i = shm i) : ∀ (n k rs : Nat) (r r2 : Nat → Nat), rs + n ≤ 20 → fz ≤ rs → (∀ j, k ≤ j → j < k + n → fe j = fe2 j ∧ 1 ≤ fe2 j) → (∀ j, j < rs → r j = r2 j) → (∀ j, j < rs → 1 ≤ r2 j) → ∀ j, j < rs + n → (f3_solve_s3 tkv opv shv wyv bdv fz fe n k rs r).2.2 j = (f3_solve_s3 tkv opv shm wyv bdv fz fe2 n k rs r2).2.2 j := by
  intro n
  induction n with
  | zero => intro k rs r r2 h1 h2 h0 h3 h4; exact h3
  | succ n ih =>
    intro k rs r r2 h1 h2 h0 h3 h4
    unfold f3_solve_s3
    have e : rs + (n + 1) = rs + 1 + n := by omega
    rw [e, (h0 k (Nat.le_refl _) (by omega)).1]
    obtain ⟨a1, a2, a3⟩ := ce_ins_rs (tkv := tkv) (opv := opv) (wyv := wyv) (bdv := bdv) hs (h0 k (Nat.le_refl _) (by omega)).2 (show rs ≤ 19 by omega) h2 h3 h4
    exact ih (k + 1) (rs + 1) _ _ (by omega) (by omega) (fun j hj1 hj2 => h0 j (by omega) (by omega)) a2 a3
theorem ce_better_s {rs i j : Nat} {r r2 : Nat → Nat} (hs : ∀ i, 1 ≤ i → shv i = shm i) (h : ∀ k, k < rs → r k = r2 k) (h3 : ∀ k, k < rs → 1 ≤ r2 k) (hi : i < rs) (hj : j < rs) : f3_better tkv opv shv wyv bdv rs r i j = f3_better tkv opv shm wyv bdv rs r2 i j ∧ ∀ k, k < rs → f3_better_rov tkv opv shv wyv bdv rs r i j k = f3_better_rov tkv opv shm wyv bdv rs r2 i j k := by
  have ht : ∀ k, k < rs → f3_turn_rov r i j k = f3_turn_rov r2 i j k := fun k hk => by rw [q3_turn_at, q3_turn_at, h i hi, h j hj, h k hk]
  have ht1 : ∀ k, k < rs → 1 ≤ f3_turn_rov r2 i j k := fun k hk => by
    rw [q3_turn_at]
    split
    · exact h3 i hi
    · split
      · exact h3 j hj
      · exact h3 k hk
  have m1 := ce_meas (tkv := tkv) (opv := opv) (wyv := wyv) (bdv := bdv) (N := rs) h (fun k hk => hs _ (h3 k hk))
  have m2 := ce_meas (tkv := tkv) (opv := opv) (wyv := wyv) (bdv := bdv) (N := rs) ht (fun k hk => hs _ (ht1 k hk))
  have eb : f3_better tkv opv shv wyv bdv rs r i j = f3_better tkv opv shm wyv bdv rs r2 i j := by unfold f3_better; rw [m1, m2]
  refine ⟨eb, fun k hk => ?_⟩
  rw [q3_better_r, q3_better_r, eb]
  split
  · exact ht k hk
  · exact h k hk
theorem ce_impr_s {fz rs B : Nat} (hs : ∀ i, 1 ≤ i → shv i = shm i) : ∀ (n : Nat) (lf : Int64) (i j : Nat) (r r2 : Nat → Nat), fz ≤ i → i < j → (i + 1 < rs → j < rs) → (∀ k, k < rs → r k = r2 k) → q_row rs B r2 →
    ∀ k, k < rs → (f3_improve_lp tkv opv shv wyv bdv fz rs n lf i j r).2.2.2 k = (f3_improve_lp tkv opv shm wyv bdv fz rs n lf i j r2).2.2.2 k := by
  intro n
  induction n with
  | zero => intro lf i j r r2 _ _ _ h _; exact h
  | succ n ih =>
    intro lf i j r r2 h1 h2 h3 h hq
    unfold f3_improve_lp
    by_cases c1 : rs ≤ i + 1
    · rw [if_pos c1, if_pos c1]; exact h
    · rw [if_neg c1, if_neg c1]
      obtain ⟨b1, b2⟩ := ce_better_s (tkv := tkv) (opv := opv) (wyv := wyv) (bdv := bdv) hs h (fun k hk => (hq.1 k hk).1) (show i < rs by omega) (h3 (by omega))
      have hb := qr_better (tkv := tkv) (opv := opv) (shv := shm) (wyv := wyv) (bdv := bdv) hq (show i < rs by omega) (h3 (by omega))
      rw [b1]
      by_cases c2 : f3_better tkv opv shm wyv bdv rs r2 i j = true
      · rw [if_pos c2, if_pos c2]
        exact ih _ _ _ _ _ (Nat.le_refl _) (by omega) (by omega) b2 hb
      · rw [if_neg c2, if_neg c2]
        exact ih _ _ _ _ _ (by split <;> omega) (by split <;> omega) (by split <;> omega) b2 hb
/-- inserting and exchanging: the class's and the reference's row -/
theorem ce_slow {fz sn : Nat} {rov icv r0 f g : Nat → Nat} {stp : Int64} (hs : ∀ i, 1 ≤ i → shv i = shm i) (hsn : sn ≤ 20) (hri : q_row fz sn icv) (he : ∀ i, i < fz → rov i = icv i) :
    (∀ j, j < sn → f2_improve_rov fz tkv opv shv wyv bdv (f2_insertFreeStops_rov fz sn tkv opv shv wyv bdv rov) stp sn j = f3_improve_rov tkv opv shm wyv bdv fz sn (f3_solve_s3 tkv opv shm wyv bdv fz (f3_solve_s1 fz icv sn 1 0 g).2.2 (f3_solve_s1 fz icv sn 1 0 g).2.1 0 fz (f3_solve_s2 icv fz 0 r0).2).2.2 stp j) ∧
    q_row sn sn (f3_improve_rov tkv opv shm wyv bdv fz sn (f3_solve_s3 tkv opv shm wyv bdv fz (f3_solve_s1 fz icv sn 1 0 g).2.2 (f3_solve_s1 fz icv sn 1 0 g).2.1 0 fz (f3_solve_s2 icv fz 0 r0).2).2.2 stp) ∧
    ∀ i, i < fz → f3_improve_rov tkv opv shm wyv bdv fz sn (f3_solve_s3 tkv opv shm wyv bdv fz (f3_solve_s1 fz icv sn 1 0 g).2.2 (f3_solve_s1 fz icv sn 1 0 g).2.1 0 fz (f3_solve_s2 icv fz 0 r0).2).2.2 stp i = icv i := by
  have hri2 : q_row fz sn rov := qr_ext he hri
  obtain ⟨q1, q2, q3⟩ := q3_ins_row (tkv := tkv) (opv := opv) (shv := shm) (wyv := wyv) (bdv := bdv) (rov := r0) (fev0 := g) hsn hri
  obtain ⟨i1, i2⟩ := qr_improve (tkv := tkv) (opv := opv) (shv := shm) (wyv := wyv) (bdv := bdv) (fz := fz) (stp := stp) q2
  refine ⟨fun j hj => ?_, i1, fun i hi => (i2 i hi).trans (q3 i hi)⟩
  rw [ce_impr]
  unfold f3_improve_rov
  refine ce_impr_s hs _ _ _ _ _ _ (Nat.le_refl _) (by omega) (by omega) (fun k hk => ?_) q2 j hj
  rw [ce_ifs (fev := g) (r := rov) hsn hri2 (fun _ _ => rfl) k hk]
  obtain ⟨b1, b2⟩ := ce_s1_c he sn 1 0 g g (fun _ _ => rfl)
  obtain ⟨a1, a2, a3⟩ := q3_free (fev := g) hri
  rw [b1]
  refine ce_s3_s hs _ _ _ _ _ (by omega) (Nat.le_refl _) (fun j _ hj2 => ⟨b2 j (by omega), (a2 j (by omega)).1⟩) (fun j hj => ?_) (fun j hj => ?_) k (by omega)
  · rw [q3_s2, if_pos (by omega)]; exact he j hj
  · rw [q3_s2, if_pos (by omega)]; exact (hri.1 j hj).1
/-- solved: the row, either way -/
theorem ce_solved {fz sn : Nat} {rov icv rm f g : Nat → Nat} {stp : Int64} {eav dnv : Nat → Int64} {dl : Nat} (hd : xdat tkv opv shv shm wyv) (hb0 : bdv 0 = false) (hsn : sn ≤ 20) (hri : q_row fz sn icv) (he : ∀ i, i < fz → rov i = icv i) :
    (∀ j, j < sn → (if f0_fill sn tkv opv shv wyv bdv f dl dnv rov fz = true then f0_fill_rov sn tkv opv shv wyv bdv f dl dnv rov fz else f2_improve_rov fz tkv opv shv wyv bdv (f2_insertFreeStops_rov fz sn tkv opv shv wyv bdv rov) stp sn) j =
      (if 11 < (f3_solve_s1 fz icv sn 1 0 g).2.1 then f3_improve_rov tkv opv shm wyv bdv fz sn (f3_solve_s3 tkv opv shm wyv bdv fz (f3_solve_s1 fz icv sn 1 0 g).2.2 (f3_solve_s1 fz icv sn 1 0 g).2.1 0 fz (f3_solve_s2 icv fz 0 rm).2).2.2 stp else (if f3_findExact sn tkv opv shm wyv bdv fz icv (f3_solve_s1 fz icv sn 1 0 g).2.1 (f3_solve_s1 fz icv sn 1 0 g).2.2 eav rm = true then f3_findExact_rov sn tkv opv shm wyv bdv fz icv (f3_solve_s1 fz icv sn 1 0 g).2.1 (f3_solve_s1 fz icv sn 1 0 g).2.2 eav rm else f3_improve_rov tkv opv shm wyv bdv fz sn (f3_solve_s3 tkv opv shm wyv bdv fz (f3_solve_s1 fz icv sn 1 0 g).2.2 (f3_solve_s1 fz icv sn 1 0 g).2.1 0 fz (f3_solve_s2 icv fz 0 (f3_findExact_rov sn tkv opv shm wyv bdv fz icv (f3_solve_s1 fz icv sn 1 0 g).2.1 (f3_solve_s1 fz icv sn 1 0 g).2.2 eav rm)).2).2.2 stp)) j) ∧
    q_row sn sn (if 11 < (f3_solve_s1 fz icv sn 1 0 g).2.1 then f3_improve_rov tkv opv shm wyv bdv fz sn (f3_solve_s3 tkv opv shm wyv bdv fz (f3_solve_s1 fz icv sn 1 0 g).2.2 (f3_solve_s1 fz icv sn 1 0 g).2.1 0 fz (f3_solve_s2 icv fz 0 rm).2).2.2 stp else (if f3_findExact sn tkv opv shm wyv bdv fz icv (f3_solve_s1 fz icv sn 1 0 g).2.1 (f3_solve_s1 fz icv sn 1 0 g).2.2 eav rm = true then f3_findExact_rov sn tkv opv shm wyv bdv fz icv (f3_solve_s1 fz icv sn 1 0 g).2.1 (f3_solve_s1 fz icv sn 1 0 g).2.2 eav rm else f3_improve_rov tkv opv shm wyv bdv fz sn (f3_solve_s3 tkv opv shm wyv bdv fz (f3_solve_s1 fz icv sn 1 0 g).2.2 (f3_solve_s1 fz icv sn 1 0 g).2.1 0 fz (f3_solve_s2 icv fz 0 (f3_findExact_rov sn tkv opv shm wyv bdv fz icv (f3_solve_s1 fz icv sn 1 0 g).2.1 (f3_solve_s1 fz icv sn 1 0 g).2.2 eav rm)).2).2.2 stp)) ∧
    ∀ i, i < fz → (if 11 < (f3_solve_s1 fz icv sn 1 0 g).2.1 then f3_improve_rov tkv opv shm wyv bdv fz sn (f3_solve_s3 tkv opv shm wyv bdv fz (f3_solve_s1 fz icv sn 1 0 g).2.2 (f3_solve_s1 fz icv sn 1 0 g).2.1 0 fz (f3_solve_s2 icv fz 0 rm).2).2.2 stp else (if f3_findExact sn tkv opv shm wyv bdv fz icv (f3_solve_s1 fz icv sn 1 0 g).2.1 (f3_solve_s1 fz icv sn 1 0 g).2.2 eav rm = true then f3_findExact_rov sn tkv opv shm wyv bdv fz icv (f3_solve_s1 fz icv sn 1 0 g).2.1 (f3_solve_s1 fz icv sn 1 0 g).2.2 eav rm else f3_improve_rov tkv opv shm wyv bdv fz sn (f3_solve_s3 tkv opv shm wyv bdv fz (f3_solve_s1 fz icv sn 1 0 g).2.2 (f3_solve_s1 fz icv sn 1 0 g).2.1 0 fz (f3_solve_s2 icv fz 0 (f3_findExact_rov sn tkv opv shm wyv bdv fz icv (f3_solve_s1 fz icv sn 1 0 g).2.1 (f3_solve_s1 fz icv sn 1 0 g).2.2 eav rm)).2).2.2 stp)) i = icv i := by
  have hs : ∀ i, 1 ≤ i → shv i = shm i := hd.2.2.2.1
  obtain ⟨a1, a2, a3⟩ := q3_free (fev := g) hri
  by_cases c : 11 < (f3_solve_s1 fz icv sn 1 0 g).2.1
  · have hf : ¬ f0_fill sn tkv opv shv wyv bdv f dl dnv rov fz = true := by
      unfold f0_fill
      rw [if_neg (by omega)]; decide
    simp only [if_pos c, if_neg hf]
    exact ce_slow (f := f) hs hsn hri he
  · obtain ⟨e1, e2⟩ := ce_fill (bdv := bdv) hd (f := f) (g := g) (rm := rm) (eav := eav) (dnv := dnv) (dl := dl) hri he hb0 (by omega)
    simp only [if_neg c]
    by_cases c2 : f0_fill sn tkv opv shv wyv bdv f dl dnv rov fz = true
    · have c3 : f3_findExact sn tkv opv shm wyv bdv fz icv (f3_solve_s1 fz icv sn 1 0 g).2.1 (f3_solve_s1 fz icv sn 1 0 g).2.2 eav rm = true := by rw [← e1]; exact c2
      simp only [if_pos c2, if_pos c3]
      obtain ⟨w1, w2⟩ := q3_find_row (by omega) a1 hri a2 a3 c3
      exact ⟨e2 c2, w1, w2⟩
    · have c3 : ¬ f3_findExact sn tkv opv shm wyv bdv fz icv (f3_solve_s1 fz icv sn 1 0 g).2.1 (f3_solve_s1 fz icv sn 1 0 g).2.2 eav rm = true := by rw [← e1]; exact c2
      simp only [if_neg c2, if_neg c3]
      exact ce_slow (f := f) hs hsn hri he
end RS1


section RS2
variable {ln : Int32} {fz : Nat} {mo : Int32} {sn : Nat} {bw : Int32} {tkv opv shv : Nat → Int64} {ldv : Nat → Int32} {wyv : Nat → Int64} {bdv : Nat → Bool} {dl : Nat} {rov : Nat → Nat} {snM : Nat} {tkvM opvM shvM : Nat → Int64} {ldvM : Nat → Int32} {lim : Int32} {wyvM : Nat → Int64} {bdvM : Nat → Bool} {isr : Bool} {rn : Nat} {rdv : Nat → Nat} {fzM : Nat} {icv : Nat → Nat}
theorem rl_mk {dl' : Nat} {RC RM RDV : Nat → Nat} (h : Rel ln fz mo sn bw tkv opv shv ldv wyv bdv dl rov snM tkvM opvM shvM ldvM lim wyvM bdvM isr rn rdv fzM icv) (K1 : ∀ j, j < sn → RC j = RM j) (K2 : q_row sn sn RM) (K3 : ∀ i, i < fz → RM i = icv i) (K4 : ∀ j, j < sn → RDV j = RM j) (K5 : ∃ dc, dc ≤ 11 ∧ dl' = 2 ^ dc * dc) : Rel (nI sn) fz mo sn bw tkv opv shv ldv wyv bdv dl' RC snM tkvM opvM shvM ldvM lim wyvM bdvM true sn RDV fzM icv := by
  obtain ⟨⟨rfl, rfl, rfl, rfl, rfl, rfl, rfl, rfl⟩, ⟨h1, h2, h3, h4⟩, hd, hr, he, -⟩ := h
  have q := qr_ext K4 K2
  refine ⟨⟨rfl, rfl, rfl, rfl, rfl, rfl, rfl, rfl⟩, ⟨h1, h2, h3, fun i hi => ?_⟩, hd, Or.inr ⟨rfl, rfl, rfl, q, fun j hj => ?_⟩, ⟨h1, fun k hk => ?_⟩, K5⟩
  · rw [K1 i (by omega)]; exact K3 i hi
  · rw [K1 j hj, K4 j hj]
  · have := (q.1 k hk).2; omega
theorem dc_grow {a b : Nat} (h : 2 ^ a * a < 2 ^ b * b) : 2 * (2 ^ a * a) ≤ 2 ^ b * b := by
  have hab : a < b := by
    rcases Nat.lt_or_ge a b with q | q
    · exact q
    · exact absurd h (Nat.not_lt.mpr (Nat.mul_le_mul (Nat.pow_le_pow_right (by decide) q) q))
  have h1 : 2 ^ (a + 1) ≤ 2 ^ b := Nat.pow_le_pow_right (by decide) hab
  have h2 : 2 ^ (a + 1) * a ≤ 2 ^ b * b := Nat.mul_le_mul h1 (by omega)
  have e : 2 ^ (a + 1) * a = 2 * (2 ^ a * a) := by rw [Nat.pow_succ, Nat.mul_comm (2 ^ a) 2, Nat.mul_assoc]
  omega
theorem ct_le {f : Nat → Nat} (hri : q_row fz sn rov) (hs : sn - fz ≤ 11) : f0_collectFree_ct sn f rov fz ≤ 11 := by
  rw [(q0_free hri hs).1]
  have := (q3_free (fev := f) hri).1
  omega
/-- what the search makes, and how large its row is then -/
theorem fill_mc {f : Nat → Nat} {dnv : Nat → Int64} (hri : q_row fz sn rov) :
    (if (sn - fz) ≤ 11 then (if (f0_followFrozen_stc tkv opv shv wyv bdv rov fz) = 1000000000000000 then 0 else (if dl < 2 ^ (f0_collectFree_ct sn f rov fz) * (f0_collectFree_ct sn f rov fz) then 1 else 0)) else 0) ≤ 1 ∧ ((if (sn - fz) ≤ 11 then (if (f0_followFrozen_stc tkv opv shv wyv bdv rov fz) = 1000000000000000 then 0 else (if dl < 2 ^ (f0_collectFree_ct sn f rov fz) * (f0_collectFree_ct sn f rov fz) then 2 ^ (f0_collectFree_ct sn f rov fz) * (f0_collectFree_ct sn f rov fz) else 0)) else 0) = 0 ∧ f0_fill_dl sn tkv opv shv wyv bdv f dl dnv rov fz = dl ∨ dl < (if (sn - fz) ≤ 11 then (if (f0_followFrozen_stc tkv opv shv wyv bdv rov fz) = 1000000000000000 then 0 else (if dl < 2 ^ (f0_collectFree_ct sn f rov fz) * (f0_collectFree_ct sn f rov fz) then 2 ^ (f0_collectFree_ct sn f rov fz) * (f0_collectFree_ct sn f rov fz) else 0)) else 0) ∧ f0_fill_dl sn tkv opv shv wyv bdv f dl dnv rov fz = (if (sn - fz) ≤ 11 then (if (f0_followFrozen_stc tkv opv shv wyv bdv rov fz) = 1000000000000000 then 0 else (if dl < 2 ^ (f0_collectFree_ct sn f rov fz) * (f0_collectFree_ct sn f rov fz) then 2 ^ (f0_collectFree_ct sn f rov fz) * (f0_collectFree_ct sn f rov fz) else 0)) else 0) ∧ ∃ c, c ≤ 11 ∧ (if (sn - fz) ≤ 11 then (if (f0_followFrozen_stc tkv opv shv wyv bdv rov fz) = 1000000000000000 then 0 else (if dl < 2 ^ (f0_collectFree_ct sn f rov fz) * (f0_collectFree_ct sn f rov fz) then 2 ^ (f0_collectFree_ct sn f rov fz) * (f0_collectFree_ct sn f rov fz) else 0)) else 0) = 2 ^ c * c) := by
  unfold f0_fill_dl f0_reckonSets_dl
  by_cases c1 : sn - fz ≤ 11
  · simp only [if_pos c1]
    by_cases c2 : f0_followFrozen_stc tkv opv shv wyv bdv rov fz = 1000000000000000
    · simp only [if_pos c2]; exact ⟨by omega, Or.inl ⟨trivial, trivial⟩⟩
    · simp only [if_neg c2, ite_self]
      by_cases c3 : dl < 2 ^ (f0_collectFree_ct sn f rov fz) * (f0_collectFree_ct sn f rov fz)
      · simp only [if_pos c3, if_neg (Nat.not_le.mpr c3)]
        exact ⟨Nat.le_refl _, Or.inr ⟨c3, trivial, _, ct_le hri c1, rfl⟩⟩
      · simp only [if_neg c3, if_pos (Nat.not_lt.mp c3)]; exact ⟨by omega, Or.inl ⟨trivial, trivial⟩⟩
  · simp only [if_neg c1]; exact ⟨by omega, Or.inl ⟨trivial, trivial⟩⟩
theorem solve_mc {f : Nat → Nat} {dnv : Nat → Int64} {stp : Int64} (hri : q_row fz sn rov) :
    (if stp < 0 then 0 else (if stp ≤ 100000 then (if mo = (((-1))) then (if (sn - fz) ≤ 11 then (if (f0_followFrozen_stc tkv opv shv wyv bdv rov fz) = 1000000000000000 then 0 else (if dl < 2 ^ (f0_collectFree_ct sn f rov fz) * (f0_collectFree_ct sn f rov fz) then 1 else 0)) else 0) else (if ((f1_loads sn ldv)) ≤ mo then (if (sn - fz) ≤ 11 then (if (f0_followFrozen_stc tkv opv shv wyv bdv rov fz) = 1000000000000000 then 0 else (if dl < 2 ^ (f0_collectFree_ct sn f rov fz) * (f0_collectFree_ct sn f rov fz) then 1 else 0)) else 0) else 0)) else 0)) ≤ 1 ∧ ((if stp < 0 then 0 else (if stp ≤ 100000 then (if mo = (((-1))) then (if (sn - fz) ≤ 11 then (if (f0_followFrozen_stc tkv opv shv wyv bdv rov fz) = 1000000000000000 then 0 else (if dl < 2 ^ (f0_collectFree_ct sn f rov fz) * (f0_collectFree_ct sn f rov fz) then 2 ^ (f0_collectFree_ct sn f rov fz) * (f0_collectFree_ct sn f rov fz) else 0)) else 0) else (if ((f1_loads sn ldv)) ≤ mo then (if (sn - fz) ≤ 11 then (if (f0_followFrozen_stc tkv opv shv wyv bdv rov fz) = 1000000000000000 then 0 else (if dl < 2 ^ (f0_collectFree_ct sn f rov fz) * (f0_collectFree_ct sn f rov fz) then 2 ^ (f0_collectFree_ct sn f rov fz) * (f0_collectFree_ct sn f rov fz) else 0)) else 0) else 0)) else 0)) = 0 ∧ f2_solve_dl fz mo sn tkv opv shv ldv wyv bdv f dl dnv rov stp = dl ∨ dl < (if stp < 0 then 0 else (if stp ≤ 100000 then (if mo = (((-1))) then (if (sn - fz) ≤ 11 then (if (f0_followFrozen_stc tkv opv shv wyv bdv rov fz) = 1000000000000000 then 0 else (if dl < 2 ^ (f0_collectFree_ct sn f rov fz) * (f0_collectFree_ct sn f rov fz) then 2 ^ (f0_collectFree_ct sn f rov fz) * (f0_collectFree_ct sn f rov fz) else 0)) else 0) else (if ((f1_loads sn ldv)) ≤ mo then (if (sn - fz) ≤ 11 then (if (f0_followFrozen_stc tkv opv shv wyv bdv rov fz) = 1000000000000000 then 0 else (if dl < 2 ^ (f0_collectFree_ct sn f rov fz) * (f0_collectFree_ct sn f rov fz) then 2 ^ (f0_collectFree_ct sn f rov fz) * (f0_collectFree_ct sn f rov fz) else 0)) else 0) else 0)) else 0)) ∧ f2_solve_dl fz mo sn tkv opv shv ldv wyv bdv f dl dnv rov stp = (if stp < 0 then 0 else (if stp ≤ 100000 then (if mo = (((-1))) then (if (sn - fz) ≤ 11 then (if (f0_followFrozen_stc tkv opv shv wyv bdv rov fz) = 1000000000000000 then 0 else (if dl < 2 ^ (f0_collectFree_ct sn f rov fz) * (f0_collectFree_ct sn f rov fz) then 2 ^ (f0_collectFree_ct sn f rov fz) * (f0_collectFree_ct sn f rov fz) else 0)) else 0) else (if ((f1_loads sn ldv)) ≤ mo then (if (sn - fz) ≤ 11 then (if (f0_followFrozen_stc tkv opv shv wyv bdv rov fz) = 1000000000000000 then 0 else (if dl < 2 ^ (f0_collectFree_ct sn f rov fz) * (f0_collectFree_ct sn f rov fz) then 2 ^ (f0_collectFree_ct sn f rov fz) * (f0_collectFree_ct sn f rov fz) else 0)) else 0) else 0)) else 0)) ∧ ∃ c, c ≤ 11 ∧ (if stp < 0 then 0 else (if stp ≤ 100000 then (if mo = (((-1))) then (if (sn - fz) ≤ 11 then (if (f0_followFrozen_stc tkv opv shv wyv bdv rov fz) = 1000000000000000 then 0 else (if dl < 2 ^ (f0_collectFree_ct sn f rov fz) * (f0_collectFree_ct sn f rov fz) then 2 ^ (f0_collectFree_ct sn f rov fz) * (f0_collectFree_ct sn f rov fz) else 0)) else 0) else (if ((f1_loads sn ldv)) ≤ mo then (if (sn - fz) ≤ 11 then (if (f0_followFrozen_stc tkv opv shv wyv bdv rov fz) = 1000000000000000 then 0 else (if dl < 2 ^ (f0_collectFree_ct sn f rov fz) * (f0_collectFree_ct sn f rov fz) then 2 ^ (f0_collectFree_ct sn f rov fz) * (f0_collectFree_ct sn f rov fz) else 0)) else 0) else 0)) else 0)) = 2 ^ c * c) := by
  have hf := fill_mc (tkv := tkv) (opv := opv) (shv := shv) (wyv := wyv) (bdv := bdv) (dl := dl) (f := f) (dnv := dnv) hri
  unfold f2_solve_dl
  by_cases c1 : stp < 0
  · simp only [if_pos c1]; exact ⟨by omega, Or.inl ⟨trivial, trivial⟩⟩
  · simp only [if_neg c1]
    by_cases c2 : stp ≤ 100000
    · simp only [if_pos c2]
      by_cases c3 : mo = (-1)
      · simp only [if_pos c3, ite_self]; exact hf
      · simp only [if_neg c3]
        by_cases c4 : f1_loads sn ldv ≤ mo
        · simp only [if_pos c4, ite_self]; exact hf
        · simp only [if_neg c4]; exact ⟨by omega, Or.inl ⟨trivial, trivial⟩⟩
    · simp only [if_neg c2]; exact ⟨by omega, Or.inl ⟨trivial, trivial⟩⟩
theorem rl_mc {f : Nat → Nat} {stp : Int64} {cells slots n : Nat} (h : Rel ln fz mo sn bw tkv opv shv ldv wyv bdv dl rov snM tkvM opvM shvM ldvM lim wyvM bdvM isr rn rdv fzM icv) (hcb : cells + (n + 1) ≤ 1000) (hsb : slots + 6 * (n + 1) ≤ 40000 + 2 * dl) : cells + (if stp < 0 then 0 else (if stp ≤ 100000 then (if mo = (((-1))) then (if (sn - fz) ≤ 11 then (if (f0_followFrozen_stc tkv opv shv wyv bdv rov fz) = 1000000000000000 then 0 else (if dl < 2 ^ (f0_collectFree_ct sn f rov fz) * (f0_collectFree_ct sn f rov fz) then 1 else 0)) else 0) else (if ((f1_loads sn ldv)) ≤ mo then (if (sn - fz) ≤ 11 then (if (f0_followFrozen_stc tkv opv shv wyv bdv rov fz) = 1000000000000000 then 0 else (if dl < 2 ^ (f0_collectFree_ct sn f rov fz) * (f0_collectFree_ct sn f rov fz) then 1 else 0)) else 0) else 0)) else 0)) ≤ 600002 ∧ slots + (if stp < 0 then 0 else (if stp ≤ 100000 then (if mo = (((-1))) then (if (sn - fz) ≤ 11 then (if (f0_followFrozen_stc tkv opv shv wyv bdv rov fz) = 1000000000000000 then 0 else (if dl < 2 ^ (f0_collectFree_ct sn f rov fz) * (f0_collectFree_ct sn f rov fz) then 2 ^ (f0_collectFree_ct sn f rov fz) * (f0_collectFree_ct sn f rov fz) else 0)) else 0) else (if ((f1_loads sn ldv)) ≤ mo then (if (sn - fz) ≤ 11 then (if (f0_followFrozen_stc tkv opv shv wyv bdv rov fz) = 1000000000000000 then 0 else (if dl < 2 ^ (f0_collectFree_ct sn f rov fz) * (f0_collectFree_ct sn f rov fz) then 2 ^ (f0_collectFree_ct sn f rov fz) * (f0_collectFree_ct sn f rov fz) else 0)) else 0) else 0)) else 0)) ≤ 7302232 := by
  obtain ⟨F1, F2, F3, F4, F5, F6, F7, F8, F9, -⟩ := rel_facts h
  obtain ⟨a, b⟩ := solve_mc (tkv := tkv) (opv := opv) (shv := shv) (ldv := ldv) (mo := mo) (wyv := wyv) (bdv := bdv) (dl := dl) (f := f) (dnv := fun _ => 0) (stp := stp) F7
  refine ⟨by omega, ?_⟩
  rcases b with ⟨b1, _⟩ | ⟨_, _, c, c1, c2⟩
  · omega
  · have : 2 ^ c * c ≤ 22528 := Nat.le_trans (Nat.mul_le_mul (Nat.pow_le_pow_right (by decide) c1) c1) (by decide)
    omega
theorem rl_mc1 {f : Nat → Nat} {stp : Int64} {cells n : Nat} (h : Rel ln fz mo sn bw tkv opv shv ldv wyv bdv dl rov snM tkvM opvM shvM ldvM lim wyvM bdvM isr rn rdv fzM icv) (hcb : cells + (n + 1) ≤ 1000) : (cells + (if stp < 0 then 0 else (if stp ≤ 100000 then (if mo = (((-1))) then (if (sn - fz) ≤ 11 then (if (f0_followFrozen_stc tkv opv shv wyv bdv rov fz) = 1000000000000000 then 0 else (if dl < 2 ^ (f0_collectFree_ct sn f rov fz) * (f0_collectFree_ct sn f rov fz) then 1 else 0)) else 0) else (if ((f1_loads sn ldv)) ≤ mo then (if (sn - fz) ≤ 11 then (if (f0_followFrozen_stc tkv opv shv wyv bdv rov fz) = 1000000000000000 then 0 else (if dl < 2 ^ (f0_collectFree_ct sn f rov fz) * (f0_collectFree_ct sn f rov fz) then 1 else 0)) else 0) else 0)) else 0))) + n ≤ 1000 := by
  obtain ⟨F1, F2, F3, F4, F5, F6, F7, -⟩ := rel_facts h
  have a := (solve_mc (tkv := tkv) (opv := opv) (shv := shv) (ldv := ldv) (mo := mo) (wyv := wyv) (bdv := bdv) (dl := dl) (f := f) (dnv := fun _ => 0) (stp := stp) F7).1
  omega
theorem rl_ms {f : Nat → Nat} {dnv : Nat → Int64} {stp : Int64} {slots n : Nat} (h : Rel ln fz mo sn bw tkv opv shv ldv wyv bdv dl rov snM tkvM opvM shvM ldvM lim wyvM bdvM isr rn rdv fzM icv) (hsb : slots + 6 * (n + 1) ≤ 40000 + 2 * dl) : (slots + (if stp < 0 then 0 else (if stp ≤ 100000 then (if mo = (((-1))) then (if (sn - fz) ≤ 11 then (if (f0_followFrozen_stc tkv opv shv wyv bdv rov fz) = 1000000000000000 then 0 else (if dl < 2 ^ (f0_collectFree_ct sn f rov fz) * (f0_collectFree_ct sn f rov fz) then 2 ^ (f0_collectFree_ct sn f rov fz) * (f0_collectFree_ct sn f rov fz) else 0)) else 0) else (if ((f1_loads sn ldv)) ≤ mo then (if (sn - fz) ≤ 11 then (if (f0_followFrozen_stc tkv opv shv wyv bdv rov fz) = 1000000000000000 then 0 else (if dl < 2 ^ (f0_collectFree_ct sn f rov fz) * (f0_collectFree_ct sn f rov fz) then 2 ^ (f0_collectFree_ct sn f rov fz) * (f0_collectFree_ct sn f rov fz) else 0)) else 0) else 0)) else 0))) + 6 * n ≤ 40000 + 2 * f2_solve_dl fz mo sn tkv opv shv ldv wyv bdv f dl dnv rov stp := by
  obtain ⟨F1, F2, F3, F4, F5, F6, F7, -⟩ := rel_facts h
  obtain ⟨-, -, -, -, -, dc, k1, k2⟩ := h
  rcases (solve_mc (tkv := tkv) (opv := opv) (shv := shv) (ldv := ldv) (mo := mo) (wyv := wyv) (bdv := bdv) (dl := dl) (f := f) (dnv := dnv) (stp := stp) F7).2 with ⟨b1, b2⟩ | ⟨b0, b1, c, c1, c2⟩
  · rw [b1, b2]; omega
  · rw [b1]
    rw [c2] at b0 ⊢
    have := dc_grow (k2 ▸ b0)
    rw [← k2] at this
    omega
theorem rl_solve' {f g : Nat → Nat} {dnv eav : Nat → Int64} {rm : Nat → Nat} (stp : Int64) (h : Rel ln fz mo sn bw tkv opv shv ldv wyv bdv dl rov snM tkvM opvM shvM ldvM lim wyvM bdvM isr rn rdv fzM icv) : Rel (f2_solve_ln ln fz mo sn tkv opv shv ldv wyv bdv f dl dnv rov stp) fz mo sn bw tkv opv shv ldv wyv bdv (f2_solve_dl fz mo sn tkv opv shv ldv wyv bdv f dl dnv rov stp) (f2_solve_rov fz mo sn tkv opv shv ldv wyv bdv f dl dnv rov stp) snM tkvM opvM shvM ldvM lim wyvM bdvM (f3_solve_isr snM tkvM opvM shvM ldvM lim wyvM bdvM isr fzM icv g eav rm stp) (f3_solve_rn snM tkvM opvM shvM ldvM lim wyvM bdvM rn fzM icv g eav rm stp) (f3_solve_rdv snM tkvM opvM shvM ldvM lim wyvM bdvM rdv fzM icv g eav rm stp) fzM icv ∧
    f2_solve fz mo sn tkv opv shv ldv wyv bdv f dl dnv rov stp = f3_solve snM tkvM opvM shvM ldvM lim wyvM bdvM fzM icv g eav rm stp := by
  have h0 := h
  have hF := rel_facts h
  obtain ⟨⟨rfl, rfl, rfl, rfl, rfl, rfl, rfl, rfl⟩, ⟨h1, h2, h3, h4⟩, ⟨d1, d2, d3, d4, d5⟩, hr, he, hdc⟩ := h
  have hld := ce_loads h1 d5
  obtain ⟨K1, K2, K3⟩ := ce_solved (bdv := bdvM) (f := f) (g := g) (rm := rm) (eav := eav) (dnv := dnv) (dl := dl) (stp := stp) d1 d3 h1 h3 h4
  have hs : ∀ i, 1 ≤ i → shv i = shvM i := d1.2.2.2.1
  have K5 : ∃ dc, dc ≤ 11 ∧ f0_fill_dl snM tkvM opvM shv wyvM bdvM f dl dnv rov fzM = 2 ^ dc * dc := by
    rcases (fill_mc (tkv := tkvM) (opv := opvM) (shv := shv) (wyv := wyvM) (bdv := bdvM) (dl := dl) (f := f) (dnv := dnv) hF.2.2.2.2.2.2.1).2 with ⟨_, b2⟩ | ⟨_, b1, c, c1, c2⟩
    · rw [b2]; exact hdc
    · rw [b1]; exact ⟨c, c1, c2⟩
  have hcost : ∀ (RC RM : Nat → Nat), (∀ j, j < snM → RC j = RM j) → q_row snM snM RM → f1_cost tkvM opvM shv wyvM bdvM RC snM = f3_measure tkvM opvM shvM wyvM bdvM snM RM := fun RC RM k1 k2 => by
    rw [ce_cost]; exact ce_meas k1 (fun k hk => hs _ (k2.1 k hk).1)
  unfold f2_solve_ln f2_solve_dl f2_solve_rov f3_solve_isr f3_solve_rn f3_solve_rdv f2_solve f3_solve
  by_cases c1 : stp < 0
  · simp only [if_pos c1]; exact ⟨h0, trivial⟩
  · simp only [if_neg c1]
    by_cases c2 : stp ≤ 100000
    · simp only [if_pos c2]
      have main : ∀ {RC RM RDV : Nat → Nat}, (∀ j, j < snM → RC j = RM j) → q_row snM snM RM → (∀ i, i < fzM → RM i = icv i) → (∀ j, j < snM → RDV j = RM j) → Rel (nI snM) fzM lim snM bw tkvM opvM shv ldvM wyvM bdvM (f0_fill_dl snM tkvM opvM shv wyvM bdvM f dl dnv rov fzM) RC snM tkvM opvM shvM ldvM lim wyvM bdvM true snM RDV fzM icv := fun k1 k2 k3 k4 => rl_mk h0 k1 k2 k3 k4 K5
      have inner : Rel (if f0_fill snM tkvM opvM shv wyvM bdvM f dl dnv rov fzM = true then nI snM else nI snM) fzM lim snM bw tkvM opvM shv ldvM wyvM bdvM (if f0_fill snM tkvM opvM shv wyvM bdvM f dl dnv rov fzM = true then f0_fill_dl snM tkvM opvM shv wyvM bdvM f dl dnv rov fzM else f0_fill_dl snM tkvM opvM shv wyvM bdvM f dl dnv rov fzM) (if f0_fill snM tkvM opvM shv wyvM bdvM f dl dnv rov fzM = true then f0_fill_rov snM tkvM opvM shv wyvM bdvM f dl dnv rov fzM else f2_improve_rov fzM tkvM opvM shv wyvM bdvM (f2_insertFreeStops_rov fzM snM tkvM opvM shv wyvM bdvM rov) stp snM) snM tkvM opvM shvM ldvM lim wyvM bdvM
          (if 11 < (f3_solve_s1 fzM icv snM 1 0 g).2.1 then f3_keep_isr else if f3_findExact snM tkvM opvM shvM wyvM bdvM fzM icv (f3_solve_s1 fzM icv snM 1 0 g).2.1 (f3_solve_s1 fzM icv snM 1 0 g).2.2 eav rm = true then f3_keep_isr else f3_keep_isr)
          (if 11 < (f3_solve_s1 fzM icv snM 1 0 g).2.1 then f3_keep_rn snM else if f3_findExact snM tkvM opvM shvM wyvM bdvM fzM icv (f3_solve_s1 fzM icv snM 1 0 g).2.1 (f3_solve_s1 fzM icv snM 1 0 g).2.2 eav rm = true then f3_keep_rn snM else f3_keep_rn snM)
          (if 11 < (f3_solve_s1 fzM icv snM 1 0 g).2.1 then f3_keep_rdv rdv snM (f3_improve_rov tkvM opvM shvM wyvM bdvM fzM snM (f3_solve_s3 tkvM opvM shvM wyvM bdvM fzM (f3_solve_s1 fzM icv snM 1 0 g).2.2 (f3_solve_s1 fzM icv snM 1 0 g).2.1 0 fzM (f3_solve_s2 icv fzM 0 rm).2).2.2 stp) else if f3_findExact snM tkvM opvM shvM wyvM bdvM fzM icv (f3_solve_s1 fzM icv snM 1 0 g).2.1 (f3_solve_s1 fzM icv snM 1 0 g).2.2 eav rm = true then f3_keep_rdv rdv snM (f3_findExact_rov snM tkvM opvM shvM wyvM bdvM fzM icv (f3_solve_s1 fzM icv snM 1 0 g).2.1 (f3_solve_s1 fzM icv snM 1 0 g).2.2 eav rm) else f3_keep_rdv rdv snM (f3_improve_rov tkvM opvM shvM wyvM bdvM fzM snM (f3_solve_s3 tkvM opvM shvM wyvM bdvM fzM (f3_solve_s1 fzM icv snM 1 0 g).2.2 (f3_solve_s1 fzM icv snM 1 0 g).2.1 0 fzM (f3_solve_s2 icv fzM 0 (f3_findExact_rov snM tkvM opvM shvM wyvM bdvM fzM icv (f3_solve_s1 fzM icv snM 1 0 g).2.1 (f3_solve_s1 fzM icv snM 1 0 g).2.2 eav rm)).2).2.2 stp)) fzM icv ∧
          (if f0_fill snM tkvM opvM shv wyvM bdvM f dl dnv rov fzM = true then f1_home tkvM opvM shv wyvM bdvM (f0_fill_rov snM tkvM opvM shv wyvM bdvM f dl dnv rov fzM) snM else f1_home tkvM opvM shv wyvM bdvM (f2_improve_rov fzM tkvM opvM shv wyvM bdvM (f2_insertFreeStops_rov fzM snM tkvM opvM shv wyvM bdvM rov) stp snM) snM) =
          (if 11 < (f3_solve_s1 fzM icv snM 1 0 g).2.1 then f3_measure tkvM opvM shvM wyvM bdvM snM (f3_improve_rov tkvM opvM shvM wyvM bdvM fzM snM (f3_solve_s3 tkvM opvM shvM wyvM bdvM fzM (f3_solve_s1 fzM icv snM 1 0 g).2.2 (f3_solve_s1 fzM icv snM 1 0 g).2.1 0 fzM (f3_solve_s2 icv fzM 0 rm).2).2.2 stp) - f3_measure tkvM opvM shvM wyvM bdvM snM (f3_improve_rov tkvM opvM shvM wyvM bdvM fzM snM (f3_solve_s3 tkvM opvM shvM wyvM bdvM fzM (f3_solve_s1 fzM icv snM 1 0 g).2.2 (f3_solve_s1 fzM icv snM 1 0 g).2.1 0 fzM (f3_solve_s2 icv fzM 0 rm).2).2.2 stp) / 1000000000 * 1000000000 else if f3_findExact snM tkvM opvM shvM wyvM bdvM fzM icv (f3_solve_s1 fzM icv snM 1 0 g).2.1 (f3_solve_s1 fzM icv snM 1 0 g).2.2 eav rm = true then f3_measure tkvM opvM shvM wyvM bdvM snM (f3_findExact_rov snM tkvM opvM shvM wyvM bdvM fzM icv (f3_solve_s1 fzM icv snM 1 0 g).2.1 (f3_solve_s1 fzM icv snM 1 0 g).2.2 eav rm) - f3_measure tkvM opvM shvM wyvM bdvM snM (f3_findExact_rov snM tkvM opvM shvM wyvM bdvM fzM icv (f3_solve_s1 fzM icv snM 1 0 g).2.1 (f3_solve_s1 fzM icv snM 1 0 g).2.2 eav rm) / 1000000000 * 1000000000 else f3_measure tkvM opvM shvM wyvM bdvM snM (f3_improve_rov tkvM opvM shvM wyvM bdvM fzM snM (f3_solve_s3 tkvM opvM shvM wyvM bdvM fzM (f3_solve_s1 fzM icv snM 1 0 g).2.2 (f3_solve_s1 fzM icv snM 1 0 g).2.1 0 fzM (f3_solve_s2 icv fzM 0 (f3_findExact_rov snM tkvM opvM shvM wyvM bdvM fzM icv (f3_solve_s1 fzM icv snM 1 0 g).2.1 (f3_solve_s1 fzM icv snM 1 0 g).2.2 eav rm)).2).2.2 stp) - f3_measure tkvM opvM shvM wyvM bdvM snM (f3_improve_rov tkvM opvM shvM wyvM bdvM fzM snM (f3_solve_s3 tkvM opvM shvM wyvM bdvM fzM (f3_solve_s1 fzM icv snM 1 0 g).2.2 (f3_solve_s1 fzM icv snM 1 0 g).2.1 0 fzM (f3_solve_s2 icv fzM 0 (f3_findExact_rov snM tkvM opvM shvM wyvM bdvM fzM icv (f3_solve_s1 fzM icv snM 1 0 g).2.1 (f3_solve_s1 fzM icv snM 1 0 g).2.2 eav rm)).2).2.2 stp) / 1000000000 * 1000000000) := by
        have hk : ∀ (RM : Nat → Nat) (j : Nat), j < snM → f3_keep_rdv rdv snM RM j = RM j := fun RM j hj => by rw [q3_keep, if_pos hj]
        by_cases c5 : f0_fill snM tkvM opvM shv wyvM bdvM f dl dnv rov fzM = true
        · by_cases c6 : 11 < (f3_solve_s1 fzM icv snM 1 0 g).2.1
          · simp only [if_pos c5, if_pos c6] at K1 K2 K3 ⊢
            exact ⟨main K1 K2 K3 (hk _), by unfold f1_home; rw [hcost _ _ K1 K2]⟩
          · by_cases c7 : f3_findExact snM tkvM opvM shvM wyvM bdvM fzM icv (f3_solve_s1 fzM icv snM 1 0 g).2.1 (f3_solve_s1 fzM icv snM 1 0 g).2.2 eav rm = true
            · simp only [if_pos c5, if_neg c6, if_pos c7] at K1 K2 K3 ⊢
              exact ⟨main K1 K2 K3 (hk _), by unfold f1_home; rw [hcost _ _ K1 K2]⟩
            · simp only [if_pos c5, if_neg c6, if_neg c7] at K1 K2 K3 ⊢
              exact ⟨main K1 K2 K3 (hk _), by unfold f1_home; rw [hcost _ _ K1 K2]⟩
        · by_cases c6 : 11 < (f3_solve_s1 fzM icv snM 1 0 g).2.1
          · simp only [if_neg c5, if_pos c6] at K1 K2 K3 ⊢
            exact ⟨main K1 K2 K3 (hk _), by unfold f1_home; rw [hcost _ _ K1 K2]⟩
          · by_cases c7 : f3_findExact snM tkvM opvM shvM wyvM bdvM fzM icv (f3_solve_s1 fzM icv snM 1 0 g).2.1 (f3_solve_s1 fzM icv snM 1 0 g).2.2 eav rm = true
            · simp only [if_neg c5, if_neg c6, if_pos c7] at K1 K2 K3 ⊢
              exact ⟨main K1 K2 K3 (hk _), by unfold f1_home; rw [hcost _ _ K1 K2]⟩
            · simp only [if_neg c5, if_neg c6, if_neg c7] at K1 K2 K3 ⊢
              exact ⟨main K1 K2 K3 (hk _), by unfold f1_home; rw [hcost _ _ K1 K2]⟩
      by_cases c3 : lim = (-1)
      · have c4 : lim < 0 := by rw [c3]; decide
        simp only [if_pos c3, if_pos c4]
        exact inner
      · have c4 : ¬ lim < 0 := d2.resolve_left c3
        simp only [if_neg c3, if_neg c4]
        rw [hld]
        by_cases c8 : f3_allLoads ldvM ≤ lim
        · simp only [if_pos c8]
          exact inner
        · simp only [if_neg c8]
          exact ⟨⟨⟨rfl, rfl, rfl, rfl, rfl, rfl, rfl, rfl⟩, ⟨h1, h2, h3, h4⟩, ⟨d1, d2, d3, d4, d5⟩, Or.inl ⟨rfl, rfl⟩, he, hdc⟩, trivial⟩
    · simp only [if_neg c2]; exact ⟨h0, trivial⟩
theorem rl_solve {f g : Nat → Nat} {dnv eav : Nat → Int64} {rm : Nat → Nat} (stp : Int64) (h : Rel ln fz mo sn bw tkv opv shv ldv wyv bdv dl rov snM tkvM opvM shvM ldvM lim wyvM bdvM isr rn rdv fzM icv) : Rel (f2_solve_ln ln fz mo sn tkv opv shv ldv wyv bdv f dl dnv rov stp) fz mo sn bw tkv opv shv ldv wyv bdv (f2_solve_dl fz mo sn tkv opv shv ldv wyv bdv f dl dnv rov stp) (f2_solve_rov fz mo sn tkv opv shv ldv wyv bdv f dl dnv rov stp) snM tkvM opvM shvM ldvM lim wyvM bdvM (f3_solve_isr snM tkvM opvM shvM ldvM lim wyvM bdvM isr fzM icv g eav rm stp) (f3_solve_rn snM tkvM opvM shvM ldvM lim wyvM bdvM rn fzM icv g eav rm stp) (f3_solve_rdv snM tkvM opvM shvM ldvM lim wyvM bdvM rdv fzM icv g eav rm stp) fzM icv := (rl_solve' stp h).1
theorem re_solve {f g : Nat → Nat} {dnv eav : Nat → Int64} {rm : Nat → Nat} (stp : Int64) (h : Rel ln fz mo sn bw tkv opv shv ldv wyv bdv dl rov snM tkvM opvM shvM ldvM lim wyvM bdvM isr rn rdv fzM icv) : f2_solve fz mo sn tkv opv shv ldv wyv bdv f dl dnv rov stp = f3_solve snM tkvM opvM shvM ldvM lim wyvM bdvM fzM icv g eav rm stp := (rl_solve' stp h).2
end RS2


section RS3
variable {ln : Int32} {fz : Nat} {mo : Int32} {sn : Nat} {bw : Int32} {tkv opv shv : Nat → Int64} {ldv : Nat → Int32} {wyv : Nat → Int64} {bdv : Nat → Bool} {dl : Nat} {rov : Nat → Nat} {snM : Nat} {tkvM opvM shvM : Nat → Int64} {ldvM : Nat → Int32} {lim : Int32} {wyvM : Nat → Int64} {bdvM : Nat → Bool} {isr : Bool} {rn : Nat} {rdv : Nat → Nat} {fzM : Nat} {icv : Nat → Nat}
/-- a row of all stops holds each -/
theorem qr_surj {n : Nat} {f : Nat → Nat} (h : q_row n n f) {x : Nat} (h1 : 1 ≤ x) (h2 : x ≤ n) : ∃ i, i < n ∧ f i = x := by
  rcases Classical.em (∃ i, i < n ∧ f i = x) with z | z
  · exact z
  · exfalso
    have h0 := q_cnt_none (f := f) n (fun i hi => (h.1 i hi).1)
    have h9 := q_cnt_all (f := f) (b := n + 1) n (fun i hi => by have := (h.1 i hi).2; omega)
    have key : ∀ b, q_cnt f n (b + 1) ≤ b ∧ (x ≤ b → q_cnt f n (b + 1) + 1 ≤ b) := by
      intro b
      induction b with
      | zero => rw [h0]; exact ⟨Nat.le_refl _, fun q => by omega⟩
      | succ b ih =>
        rw [q_cnt_s (b := b + 1) n h.2]
        by_cases e : x = b + 1
        · subst e
          rw [if_neg z]
          exact ⟨by omega, fun _ => by omega⟩
        · split
          · exact ⟨by omega, fun q => by have := ih.2 (by omega); omega⟩
          · exact ⟨by omega, fun q => by have := ih.2 (by omega); omega⟩
    have := (key n).2 h2
    omega
theorem q3_alp {x p : Nat} (hp : rdv p = x) : ∀ (n pl k : Nat), (∀ i, k ≤ i → i < k + n → rdv i = x → i = p) → (k ≤ p ∧ p < k + n → (f3_add_lp rdv x n pl k).1 = p) ∧ (p < k ∧ pl = p → (f3_add_lp rdv x n pl k).1 = p) := by
  intro n
  induction n with
  | zero => intro pl k _; exact ⟨fun z => by omega, fun z => z.2⟩
  | succ n ih =>
    intro pl k h
    unfold f3_add_lp
    have ih' := ih (if rdv k = x then k else pl) (k + 1) (fun i h1 h2 => h i (by omega) (by omega))
    refine ⟨fun z => ?_, fun z => ?_⟩
    · by_cases e : k = p
      · subst e
        exact ih'.2 ⟨by omega, by rw [if_pos hp]⟩
      · exact ih'.1 ⟨by omega, by omega⟩
    · refine ih'.2 ⟨by omega, ?_⟩
      by_cases c : rdv k = x
      · have := h k (Nat.le_refl _) (by omega) c; omega
      · rw [if_neg c]; exact z.2
theorem ce_alp : ∀ (n k : Nat) (r : Nat → Nat) (j : Nat), (f2_add_lp n k r).2 j = if k ≤ j ∧ j < k + n then r (j + 1) else if j = k + n ∧ 0 < n then r k else r j := by
  intro n
  induction n with
  | zero => intro k r j; rw [if_neg (by omega), if_neg (by omega)]; rfl
  | succ n ih =>
    intro k r j
    unfold f2_add_lp
    rw [ih]
    unfold f2_swap_rov
    by_cases c1 : k ≤ j ∧ j < k + (n + 1)
    · rw [if_pos c1]
      by_cases c2 : k + 1 ≤ j ∧ j < k + 1 + n
      · rw [if_pos c2, va_up_ne _ _ (by omega), va_up_ne _ _ (by omega)]
      · have e : j = k := by omega
        subst e
        rw [if_neg c2, if_neg (by omega), va_up_ne _ _ (by omega), va_up_self]
    · rw [if_neg c1]
      by_cases c2 : j = k + (n + 1) ∧ 0 < n + 1
      · rw [if_pos c2, if_neg (by omega)]
        by_cases c3 : j = k + 1 + n ∧ 0 < n
        · rw [if_pos c3, va_up_self]
        · have e : n = 0 := by omega
          subst e
          have e2 : j = k + 1 := by omega
          subst e2
          rw [if_neg c3, va_up_self]
      · rw [if_neg c2, if_neg (by omega), if_neg (by omega), va_up_ne _ _ (by omega), va_up_ne _ _ (by omega)]
theorem rl_add' {rm : Nat → Nat} (x : Int32) (h : Rel ln fz mo sn bw tkv opv shv ldv wyv bdv dl rov snM tkvM opvM shvM ldvM lim wyvM bdvM isr rn rdv fzM icv) : Rel ln fz mo sn bw tkv opv shv ldv wyv bdv dl (f2_add_rov fz sn tkv opv shv wyv bdv rov x (cl ln)) snM tkvM opvM shvM ldvM lim wyvM bdvM (f3_add_isr snM isr rn rdv fzM x) (f3_add_rn snM isr rn rdv fzM x) (f3_add_rdv snM tkvM opvM shvM wyvM bdvM isr rn rdv fzM rm x) fzM icv ∧ f2_add fz sn tkv opv shv wyv bdv rov x (cl ln) = f3_add snM tkvM opvM shvM wyvM bdvM isr rn rdv fzM rm x := by
  have h0 := h
  have hF := rel_facts h
  obtain ⟨⟨rfl, rfl, rfl, rfl, rfl, rfl, rfl, rfl⟩, ⟨h1, h2, h3, h4⟩, ⟨d1, d2, d3, d4, d5⟩, hr, he, hdc⟩ := h
  have hs : ∀ i, 1 ≤ i → shv i = shvM i := d1.2.2.2.1
  unfold f2_add_rov f3_add_isr f3_add_rn f3_add_rdv f2_add f3_add
  have e0 : f1_isStop snM x = f3_isStop snM x := rfl
  rw [e0]
  by_cases c1 : f3_isStop snM x = true
  · simp only [if_pos c1]
    obtain ⟨x1, x2, x3⟩ := q3_stop c1 h1
    rcases hr with ⟨r1, r2⟩ | ⟨r1, r2, r3, r4, r5⟩
    · subst r1; subst r2
      have hp : f2_placeOf rov (cl x) (cl (-1)) = (-1) := by rw [cl_m1]; rfl
      have n1 : ¬ nI fzM ≤ f2_placeOf rov (cl x) (cl (-1)) := by
        rw [hp]
        intro z
        rw [Int32.le_iff_toInt_le, nI_toInt (by omega)] at z
        have : ((-1 : Int32)).toInt = -1 := by decide
        omega
      simp only [if_neg n1, Bool.false_eq_true, if_false]
      exact ⟨h0, trivial⟩
    · subst r1; subst r3
      have hcl : cl ln = rn := by rw [r2]; exact cl_nI (by omega)
      rw [hcl]
      obtain ⟨p, p1, p2⟩ := qr_surj r4 x2 x3
      have hu : ∀ i, i < rn → rdv i = cl x → i = p := fun i hi z => r4.2 i p hi p1 (z.trans p2.symm)
      have hpm : (f3_add_lp rdv (cl x) rn 0 0).1 = p := (q3_alp p2 rn 0 0 (fun i _ hi z => hu i (by omega) z)).1 ⟨by omega, by omega⟩
      have hpc : f2_placeOf rov (cl x) rn = nI p := by
        rcases q2_place_lp (rov := rov) (x := cl x) rn 0 with ⟨_, b⟩ | ⟨q, q1, q2, q3, q4⟩
        · exact absurd (by rw [r5 p p1]; exact p2) (b p (Nat.zero_le _) (by omega))
        · have : q = p := hu q (by omega) (by rw [← r5 q (by omega)]; exact q3)
          subst this
          exact q4
      rw [hpm, hpc, cl_nI (by omega)]
      simp only [if_true]
      by_cases c2 : fzM ≤ p
      · have c3 : nI fzM ≤ nI p := (nI_leI (by omega) (by omega)).mpr c2
        simp only [if_pos c2, if_pos c3]
        have hfe : ∀ j, j < rn → f3_fetch_rov rn rdv rm j = rdv j := fun j hj => by rw [q3_fetch, if_pos hj]
        have hq := qr_ext hfe r4
        obtain ⟨t1, t2⟩ := qr_takeOut hq p1
        rw [hfe p p1, p2] at t2
        have hrow : ∀ j, j < rn - 1 → (f2_add_lp (rn - p - 1) p rov).2 j = f3_takeOut_rov rn (f3_fetch_rov rn rdv rm) p j := fun j hj => by
          rw [ce_alp, q3_takeOut p1]
          by_cases c4 : p ≤ j
          · rw [if_pos (by omega), if_pos (by omega), hfe _ (by omega)]; exact r5 _ (by omega)
          · rw [if_neg (by omega), if_neg (by omega), if_neg (by omega), hfe _ (by omega)]; exact r5 _ (by omega)
        have h1' : ∀ j, j < rn - 1 → 1 ≤ f3_takeOut_rov rn (f3_fetch_rov rn rdv rm) p j := fun j hj => (t1.1 j hj).1
        obtain ⟨i1, i2, i3, i4⟩ := ce_insert (tkv := tkvM) (opv := opvM) (shv := shv) (wyv := wyvM) (bdv := bdvM) (r := (f2_add_lp (rn - p - 1) p rov).2) (x := cl x) (co := rn - 1) (fz := fzM) (by omega) (by omega)
        obtain ⟨s1, s2, s3⟩ := ce_ins_rs (tkv := tkvM) (opv := opvM) (wyv := wyvM) (bdv := bdvM) (fz := fzM) hs x2 (show rn - 1 ≤ 19 by omega) (by omega) hrow h1'
        obtain ⟨q1, q2, q3⟩ := qr_insert (tkv := tkvM) (opv := opvM) (shv := shvM) (wyv := wyvM) (bdv := bdvM) (fz := fzM) (show rn - 1 ≤ 19 by omega) (by omega) t1 x2 x3 t2
        have e1 : rn - 1 + 1 = rn := by omega
        rw [e1] at i4 s2 q1
        have ers : f3_insert_rs (rn - 1) = rn := by show rn - 1 + 1 = rn; omega
        rw [ers]
        refine ⟨?_, by rw [← i1]; exact s1⟩
        have := rl_mk h0 (dl' := dl) (RC := f2_insert_rov fzM tkvM opvM shv wyvM bdvM (f2_add_lp (rn - p - 1) p rov).2 (cl x) (rn - 1)) (RM := f3_insert_rov tkvM opvM shvM wyvM bdvM fzM (rn - 1) (f3_takeOut_rov rn (f3_fetch_rov rn rdv rm) p) (cl x)) (RDV := f3_keep_rdv rdv rn (f3_insert_rov tkvM opvM shvM wyvM bdvM fzM (rn - 1) (f3_takeOut_rov rn (f3_fetch_rov rn rdv rm) p) (cl x))) (fun j hj => by rw [i4 j hj]; exact s2 j hj) q1 (fun i hi => by rw [q2 i hi, q3_takeOut p1, if_neg (by omega), hfe i (by omega), ← r5 i (by omega)]; exact h4 i hi) (fun j hj => by rw [q3_keep, if_pos hj]) hdc
        rw [← r2] at this
        exact this
      · have c3 : ¬ nI fzM ≤ nI p := fun z => c2 ((nI_leI (by omega) (by omega)).mp z)
        simp only [if_neg c2, if_neg c3]
        exact ⟨h0, trivial⟩
  · simp only [if_neg c1]
    exact ⟨h0, trivial⟩
theorem rl_add {rm : Nat → Nat} (x : Int32) (h : Rel ln fz mo sn bw tkv opv shv ldv wyv bdv dl rov snM tkvM opvM shvM ldvM lim wyvM bdvM isr rn rdv fzM icv) : Rel ln fz mo sn bw tkv opv shv ldv wyv bdv dl (f2_add_rov fz sn tkv opv shv wyv bdv rov x (cl ln)) snM tkvM opvM shvM ldvM lim wyvM bdvM (f3_add_isr snM isr rn rdv fzM x) (f3_add_rn snM isr rn rdv fzM x) (f3_add_rdv snM tkvM opvM shvM wyvM bdvM isr rn rdv fzM rm x) fzM icv := (rl_add' x h).1
theorem re_add {rm : Nat → Nat} (x : Int32) (h : Rel ln fz mo sn bw tkv opv shv ldv wyv bdv dl rov snM tkvM opvM shvM ldvM lim wyvM bdvM isr rn rdv fzM icv) : f2_add fz sn tkv opv shv wyv bdv rov x (cl ln) = f3_add snM tkvM opvM shvM wyvM bdvM isr rn rdv fzM rm x := (rl_add' x h).2
theorem rl_exchange' {rm : Nat → Nat} (x y : Int32) (h : Rel ln fz mo sn bw tkv opv shv ldv wyv bdv dl rov snM tkvM opvM shvM ldvM lim wyvM bdvM isr rn rdv fzM icv) : Rel ln fz mo sn bw tkv opv shv ldv wyv bdv dl (f2_exchange_rov ln fz tkv opv shv wyv bdv rov x y (cl ln)) snM tkvM opvM shvM ldvM lim wyvM bdvM (f3_exchange_isr tkvM opvM shvM wyvM bdvM isr rn rdv fzM rm x y) (f3_exchange_rn tkvM opvM shvM wyvM bdvM isr rn rdv fzM rm x y) (f3_exchange_rdv tkvM opvM shvM wyvM bdvM isr rn rdv fzM rm x y) fzM icv ∧ f2_exchange ln fz tkv opv shv wyv bdv rov x y (cl ln) = f3_exchange tkvM opvM shvM wyvM bdvM isr rn rdv fzM rm x y := by
  have h0 := h
  obtain ⟨⟨rfl, rfl, rfl, rfl, rfl, rfl, rfl, rfl⟩, ⟨h1, h2, h3, h4⟩, ⟨d1, d2, d3, d4, d5⟩, hr, he, hdc⟩ := h
  have hs : ∀ i, 1 ≤ i → shv i = shvM i := d1.2.2.2.1
  unfold f2_exchange_rov f3_exchange_isr f3_exchange_rn f3_exchange_rdv f2_exchange f3_exchange f2_isPlace
  by_cases c1 : x < 0
  · simp only [if_pos c1, Bool.false_eq_true, if_false]; exact ⟨h0, trivial⟩
  · simp only [if_neg c1]
    by_cases c2 : y < 0
    · have c3 : ¬ (0 : Int32) ≤ y := Int32.not_le.mpr c2
      simp only [if_pos c2, if_neg c3, Bool.false_eq_true, if_false, ite_self]; exact ⟨h0, trivial⟩
    · have c3 : (0 : Int32) ≤ y := Int32.not_lt.mp c2
      simp only [if_neg c2, if_pos c3]
      rcases hr with ⟨r1, r2⟩ | ⟨r1, r2, r3, r4, r5⟩
      · subst r1; subst r2
        simp only [if_true, Bool.false_eq_true, if_false]
        exact ⟨h0, trivial⟩
      · subst r1; subst r3
        have hcl : cl ln = rn := by rw [r2]; exact cl_nI (by omega)
        have n1 : ¬ ln = (-1) := by rw [r2]; exact nI_ne_m1 h1
        rw [hcl]
        simp only [if_neg n1, if_true]
        by_cases c4 : nI rn ≤ x
        · have c5 : ln ≤ x := by rw [r2]; exact c4
          simp only [if_pos c4, if_pos c5, Bool.false_eq_true, if_false]; exact ⟨h0, trivial⟩
        · have c5 : ¬ ln ≤ x := by rw [r2]; exact c4
          simp only [if_neg c4, if_neg c5, if_true]
          by_cases c6 : y < nI rn
          · have c7 : ¬ ln ≤ y := by rw [r2]; exact Int32.not_le.mpr c6
            simp only [if_pos c6, if_neg c7, if_true]
            have hx := cl_ltn c1 c4 (by omega)
            have hy := cl_ltp c2 c6 (by omega)
            by_cases c8 : cl x = cl y
            · simp only [if_pos c8, ite_self]; exact ⟨h0, trivial⟩
            · simp only [if_neg c8]
              by_cases c9 : cl x < fzM
              · simp only [if_pos c9]; exact ⟨h0, trivial⟩
              · simp only [if_neg c9]
                by_cases c10 : cl y < fzM
                · have c11 : ¬ fzM ≤ cl y := by omega
                  simp only [if_pos c10, if_neg c11]; exact ⟨h0, trivial⟩
                · have c11 : fzM ≤ cl y := by omega
                  simp only [if_neg c10, if_pos c11]
                  obtain ⟨w1, w2⟩ := ce_swl (tkv := tkvM) (opv := opvM) (shv := shv) (wyv := wyvM) (bdv := bdvM) (rl := rn) (i := cl x) (j := cl y) (rov := rov) (ce_cost (tkv := tkvM) (opv := opvM) (shv := shv) (wyv := wyvM) (bdv := bdvM) (rov := rov) (n := rn))
                  have hfe : ∀ j, j < rn → f3_fetch_rov rn rdv rm j = rdv j := fun j hj => by rw [q3_fetch, if_pos hj]
                  have hq := qr_ext hfe r4
                  obtain ⟨b1, b2⟩ := ce_better_s (tkv := tkvM) (opv := opvM) (wyv := wyvM) (bdv := bdvM) hs (rs := rn) (r := rov) (r2 := f3_fetch_rov rn rdv rm) (fun k hk => by rw [hfe k hk]; exact r5 k hk) (fun k hk => (hq.1 k hk).1) hx hy
                  have hbq := qr_better (tkv := tkvM) (opv := opvM) (shv := shvM) (wyv := wyvM) (bdv := bdvM) hq hx hy
                  rw [w1, w2, b1]
                  by_cases c12 : f3_better tkvM opvM shvM wyvM bdvM rn (f3_fetch_rov rn rdv rm) (cl x) (cl y) = true
                  · simp only [if_pos c12]
                    refine ⟨?_, trivial⟩
                    have := rl_mk h0 (dl' := dl) (RC := f3_better_rov tkvM opvM shv wyvM bdvM rn rov (cl x) (cl y)) (RM := f3_better_rov tkvM opvM shvM wyvM bdvM rn (f3_fetch_rov rn rdv rm) (cl x) (cl y)) (RDV := f3_keep_rdv rdv rn (f3_better_rov tkvM opvM shvM wyvM bdvM rn (f3_fetch_rov rn rdv rm) (cl x) (cl y))) b2 hbq (fun i hi => by rw [q3_better_lo (by omega) (by omega), hfe i (by omega), ← r5 i (by omega)]; exact h4 i hi) (fun j hj => by rw [q3_keep, if_pos hj]) hdc
                    rw [← r2] at this
                    exact this
                  · simp only [if_neg c12]
                    have e3 : f3_better_rov tkvM opvM shv wyvM bdvM rn rov (cl x) (cl y) = rov := by
                      rw [q3_better_r, b1, if_neg c12]
                    rw [e3]
                    exact ⟨h0, trivial⟩
          · have c7 : ln ≤ y := by rw [r2]; exact Int32.not_lt.mp c6
            simp only [if_neg c6, if_pos c7, Bool.false_eq_true, if_false]; exact ⟨h0, trivial⟩
theorem rl_exchange {rm : Nat → Nat} (x y : Int32) (h : Rel ln fz mo sn bw tkv opv shv ldv wyv bdv dl rov snM tkvM opvM shvM ldvM lim wyvM bdvM isr rn rdv fzM icv) : Rel ln fz mo sn bw tkv opv shv ldv wyv bdv dl (f2_exchange_rov ln fz tkv opv shv wyv bdv rov x y (cl ln)) snM tkvM opvM shvM ldvM lim wyvM bdvM (f3_exchange_isr tkvM opvM shvM wyvM bdvM isr rn rdv fzM rm x y) (f3_exchange_rn tkvM opvM shvM wyvM bdvM isr rn rdv fzM rm x y) (f3_exchange_rdv tkvM opvM shvM wyvM bdvM isr rn rdv fzM rm x y) fzM icv := (rl_exchange' x y h).1
theorem re_exchange {rm : Nat → Nat} (x y : Int32) (h : Rel ln fz mo sn bw tkv opv shv ldv wyv bdv dl rov snM tkvM opvM shvM ldvM lim wyvM bdvM isr rn rdv fzM icv) : f2_exchange ln fz tkv opv shv wyv bdv rov x y (cl ln) = f3_exchange tkvM opvM shvM wyvM bdvM isr rn rdv fzM rm x y := (rl_exchange' x y h).2
end RS3


section RS4
variable {ln : Int32} {fz : Nat} {mo : Int32} {sn : Nat} {bw : Int32} {tkv opv shv : Nat → Int64} {ldv : Nat → Int32} {wyv : Nat → Int64} {bdv : Nat → Bool} {dl : Nat} {rov : Nat → Nat} {snM : Nat} {tkvM opvM shvM : Nat → Int64} {ldvM : Nat → Int32} {lim : Int32} {wyvM : Nat → Int64} {bdvM : Nat → Bool} {isr : Bool} {rn : Nat} {rdv : Nat → Nat} {fzM : Nat} {icv : Nat → Nat}
theorem q3_late_neg {y : Int32} (hy : y < 0) : ∀ (n : Nat) (ck : Int64) (he u k : Nat), u + n ≤ 1000 → f3_late_lp tkv opv shv wyv rdv y n ck he u k = nI 0 := by
  intro n
  induction n with
  | zero => intro ck he u k _; rfl
  | succ n ih =>
    intro ck he u k hu
    unfold f3_late_lp
    have hn : ¬ nI u = y := fun z => by
      have := nI_pos (n := u) (by omega)
      rw [z] at this; exact this hy
    split <;> first | exact ih _ _ _ _ (by omega) | (rw [if_neg hn]; exact ih _ _ _ _ (by omega))
theorem ce_late_lp {shm : Nat → Int64} {y : Int32} {N : Nat} {r r2 : Nat → Nat} (hs : ∀ i, 1 ≤ i → shv i = shm i) (hr : ∀ j, j < N → r j = r2 j) (h1 : ∀ j, j < N → 1 ≤ r2 j) : ∀ (n u : Nat) (ck : Int64) (he k : Nat), k + n = N → f1_lateStop_lp tkv opv shv wyv r y n u ck he k = f3_late_lp tkv opv shm wyv r2 y n ck he u k := by
  intro n
  induction n with
  | zero => intro u ck he k _; rfl
  | succ n ih =>
    intro u ck he k hk
    unfold f1_lateStop_lp f3_late_lp
    rw [hr k (by omega), hs _ (h1 k (by omega)), Nat.mul_comm he 21, ce_done]
    split
    · exact ih _ _ _ _ (by omega)
    · split
      · rfl
      · exact ih _ _ _ _ (by omega)
theorem re_late (y : Int32) (h : Rel ln fz mo sn bw tkv opv shv ldv wyv bdv dl rov snM tkvM opvM shvM ldvM lim wyvM bdvM isr rn rdv fzM icv) : f2_late ln tkv opv shv wyv rov y (cl ln) = f3_late tkvM opvM shvM wyvM isr rn rdv y := by
  obtain ⟨⟨rfl, rfl, rfl, rfl, rfl, rfl, rfl, rfl⟩, ⟨h1, h2, h3, h4⟩, ⟨d1, d2, d3, d4, d5⟩, hr, he, hdc⟩ := h
  unfold f2_late f3_late
  rcases hr with ⟨r1, r2⟩ | ⟨r1, r2, r3, r4, r5⟩
  · subst r1; subst r2
    simp only [Bool.false_eq_true, if_false, if_true, ite_self]
  · subst r1; subst r3
    rw [if_pos rfl]
    have hcl : cl ln = rn := by rw [r2]; exact cl_nI (by omega)
    have n1 : ¬ ln = (-1) := by rw [r2]; exact nI_ne_m1 h1
    rw [hcl, if_neg n1]
    by_cases c : y < 0
    · rw [if_pos c, q3_late_neg c _ _ _ _ _ (by omega)]
    · rw [if_neg c]
      unfold f1_lateStop
      exact ce_late_lp d1.2.2.2.1 r5 (fun j hj => (r4.1 j hj).1) rn 0 0 0 0 (by omega)
theorem ce_lw {b : Nat} (hw : ∀ i, bnd 100000 (wyv i)) : ∀ (n : Nat) (x y : Int64) (a : Nat), xrel 100000 x y → xrel 100000 (f1_leastWayTo_lp wyv bdv b n x a).1 (f3_bound_lpa wyv bdv b n y a).1 := by
  intro n
  induction n with
  | zero => intro x y a h; exact h
  | succ n ih =>
    intro x y a h
    unfold f1_leastWayTo_lp f3_bound_lpa
    rw [Nat.mul_comm a 21]
    refine ih _ _ _ ?_
    by_cases c1 : a = b
    · rw [if_pos c1, if_pos c1]; exact h
    · rw [if_neg c1, if_neg c1]
      by_cases c2 : bdv (21 * a + b) = true
      · rw [if_pos c2, if_pos c2]; exact h
      · rw [if_neg c2, if_neg c2]
        rcases h with ⟨rfl, rfl⟩ | ⟨rfl, hb⟩
        · have k1 : wyv (21 * a + b) < 1000000000000000 := by rw [i64_NC]; exact bnd_lt (hw _) (by decide) (by decide)
          have k2 : wyv (21 * a + b) < 4000000000000000000 := by rw [i64_NM]; exact bnd_lt (hw _) (by decide) (by decide)
          rw [if_pos k1, if_neg (Int64.not_le.mpr k2)]
          exact Or.inr ⟨rfl, hw _⟩
        · by_cases c3 : wyv (21 * a + b) < x
          · rw [if_pos c3, if_neg (Int64.not_le.mpr c3)]; exact Or.inr ⟨rfl, hw _⟩
          · rw [if_neg c3, if_pos (Int64.not_lt.mp c3)]; exact Or.inr ⟨rfl, hb⟩
theorem ce_lt_lp (hw : ∀ i, bnd 100000 (wyv i)) : ∀ (n : Nat) (su : Int64) (b : Nat), f1_leastTime_lp sn tkv wyv bdv n su b = f3_bound_lpb sn tkv wyv bdv n su b := by
  intro n
  induction n with
  | zero => intro su b; rfl
  | succ n ih =>
    intro su b
    unfold f1_leastTime_lp f3_bound_lpb f1_leastWayTo
    have hx := ce_lw (bdv := bdv) (b := b) hw (sn + 1) 1000000000000000 4000000000000000000 0 (Or.inl ⟨rfl, rfl⟩)
    obtain ⟨a1, a2⟩ := xr_ne hx (by decide)
    by_cases c : (f1_leastWayTo_lp wyv bdv b (sn + 1) 1000000000000000 0).1 = 1000000000000000
    · rw [if_pos c, if_pos (a1.mp c)]
    · rw [if_neg c, if_neg (fun z => c (a1.mpr z)), (a2 c).1, ih, Int64.add_assoc, Int64.add_comm (tkv b)]
theorem re_bound (h : Rel ln fz mo sn bw tkv opv shv ldv wyv bdv dl rov snM tkvM opvM shvM ldvM lim wyvM bdvM isr rn rdv fzM icv) : f2_bound sn tkv wyv bdv = f3_bound snM tkvM wyvM bdvM := by
  obtain ⟨⟨rfl, rfl, rfl, rfl, rfl, rfl, rfl, rfl⟩, -, ⟨d1, -⟩, -⟩ := h
  unfold f2_bound f1_leastTime f3_bound
  split
  · rfl
  · exact ce_lt_lp d1.2.2.2.2.1 _ _ _
theorem re_at1' (x : Int32) (h : Rel ln fz mo sn bw tkv opv shv ldv wyv bdv dl rov snM tkvM opvM shvM ldvM lim wyvM bdvM isr rn rdv fzM icv) : fL_at ln x = f3_at_thr isr rn x := by
  obtain ⟨⟨rfl, rfl, rfl, rfl, rfl, rfl, rfl, rfl⟩, ⟨h1, h2, h3, h4⟩, -, hr, -⟩ := h
  unfold fL_at f3_at_thr
  rcases hr with ⟨r1, r2⟩ | ⟨r1, r2, r3, r4, r5⟩
  · subst r1; subst r2
    rw [if_neg (show ¬ (false = true) by decide), if_pos]
    · rfl
    · by_cases c : x < 0
      · exact Or.inl c
      · refine Or.inr (fun z => c (Int32.lt_trans z (by decide)))
  · subst r1; subst r3
    rw [if_pos rfl, r2]
    by_cases c : x < 0
    · rw [if_pos c, if_pos (Or.inl c)]; rfl
    · rw [if_neg c]
      by_cases c2 : nI rn ≤ x
      · rw [if_pos c2, if_pos (Or.inr (Int32.not_lt.mpr c2))]; rfl
      · rw [if_neg c2, if_neg]
        · rfl
        · rintro (z | z)
          · exact c z
          · exact z (Int32.not_le.mp c2)
theorem re_at2' {lov : Nat → Int64} (x : Int32) (h : Rel ln fz mo sn bw tkv opv shv ldv wyv bdv dl rov snM tkvM opvM shvM ldvM lim wyvM bdvM isr rn rdv fzM icv) (hz : fL_at ln x = 0) : fL_at_lov ln rov lov x 0 = (f3_at isr rn rdv x).toInt64 := by
  have hF := rel_facts h
  obtain ⟨⟨rfl, rfl, rfl, rfl, rfl, rfl, rfl, rfl⟩, ⟨h1, h2, h3, h4⟩, -, hr, -⟩ := h
  have hc : ¬ (x < 0 ∨ ¬ x < ln) := fun z => by unfold fL_at at hz; rw [if_pos z] at hz; exact absurd hz (by decide)
  unfold fL_at_lov f3_at
  rw [if_neg hc, va_up_self]
  have c1 : ¬ x < 0 := fun z => hc (Or.inl z)
  have c2 : x < ln := Classical.byContradiction fun z => hc (Or.inr z)
  rcases hr with ⟨r1, r2⟩ | ⟨r1, r2, r3, r4, r5⟩
  · subst r2
    exact absurd (Int32.lt_trans c2 (by decide)) c1
  · subst r1; subst r3
    rw [r2] at c2
    rw [if_pos rfl, if_neg c1, if_neg (Int32.not_le.mpr c2), r5 _ (cl_ltp c1 c2 (by omega))]
end RS4


section RS5
variable {ln : Int32} {fz : Nat} {mo : Int32} {sn : Nat} {bw : Int32} {tkv opv shv : Nat → Int64} {ldv : Nat → Int32} {wyv : Nat → Int64} {bdv : Nat → Bool} {dl : Nat} {rov : Nat → Nat} {snM : Nat} {tkvM opvM shvM : Nat → Int64} {ldvM : Nat → Int32} {lim : Int32} {wyvM : Nat → Int64} {bdvM : Nat → Bool} {isr : Bool} {rn : Nat} {rdv : Nat → Nat} {fzM : Nat} {icv : Nat → Nat}
theorem re_at1 (x : Int32) (h : Rel ln fz mo sn bw tkv opv shv ldv wyv bdv dl rov snM tkvM opvM shvM ldvM lim wyvM bdvM isr rn rdv fzM icv) : f3_thrown (f3_at_thr isr rn x) = fL_at ln x := (re_at1' x h).symm
theorem re_at2 {lov : Nat → Int64} (x : Int32) (h : Rel ln fz mo sn bw tkv opv shv ldv wyv bdv dl rov snM tkvM opvM shvM ldvM lim wyvM bdvM isr rn rdv fzM icv) : fL_at ln x = 0 → fL_at_lov ln rov lov x 0 = (f3_at isr rn rdv x).toInt64 := fun hz => re_at2' x h hz
end RS5

