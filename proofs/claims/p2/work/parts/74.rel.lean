/-- the class's state (first) and the reference's (then) tell the same -/
def Rel (ln : Int32) (fz : Nat) (mo : Int32) (sn : Nat) (bw : Int32) (tkv opv shv : Nat → Int64) (ldv : Nat → Int32) (wyv : Nat → Int64) (bdv : Nat → Bool) (dl : Nat) (rov : Nat → Nat) (snM : Nat) (tkvM opvM shvM : Nat → Int64) (ldvM : Nat → Int32) (lim : Int32) (wyvM : Nat → Int64) (bdvM : Nat → Bool) (isr : Bool) (rn : Nat) (rdv : Nat → Nat) (fzM : Nat) (icv : Nat → Nat) : Prop :=
  (snM = sn ∧ tkvM = tkv ∧ opvM = opv ∧ ldvM = ldv ∧ lim = mo ∧ wyvM = wyv ∧ bdvM = bdv ∧ fzM = fz) ∧ (sn ≤ 20 ∧ fz ≤ sn ∧ q_row fz sn icv ∧ ∀ i, i < fz → rov i = icv i) ∧ (xdat tkv opv shv shvM wyv ∧ (mo = (-1) ∨ ¬ mo < 0) ∧ bdv 0 = false ∧ bw = nI (f3_arc_lp bdv 441 0 0).1 ∧ ∀ i, sn < i → ldv i = 0) ∧
  (isr = false ∧ ln = (-1) ∨ isr = true ∧ ln = nI sn ∧ rn = sn ∧ q_row sn sn rdv ∧ ∀ j, j < sn → rov j = rdv j) ∧ (rn ≤ 20 ∧ ∀ k, k < rn → rdv k ≤ 20) ∧ ∃ dc, dc ≤ 11 ∧ dl = 2 ^ dc * dc
section REL
variable {ln : Int32} {fz : Nat} {mo : Int32} {sn : Nat} {bw : Int32} {tkv opv shv : Nat → Int64} {ldv : Nat → Int32} {wyv : Nat → Int64} {bdv : Nat → Bool} {dl : Nat} {rov : Nat → Nat} {snM : Nat} {tkvM opvM shvM : Nat → Int64} {ldvM : Nat → Int32} {lim : Int32} {wyvM : Nat → Int64} {bdvM : Nat → Bool} {isr : Bool} {rn : Nat} {rdv : Nat → Nat} {fzM : Nat} {icv : Nat → Nat}
theorem cl_m1 : cl (-1) = 0 := by decide
theorem rel_facts (h : Rel ln fz mo sn bw tkv opv shv ldv wyv bdv dl rov snM tkvM opvM shvM ldvM lim wyvM bdvM isr rn rdv fzM icv) :
    sn ≤ 20 ∧ snM ≤ 20 ∧ fz ≤ sn ∧ fzM ≤ snM ∧ fz ≤ 20 ∧ fzM ≤ 20 ∧ q_row fz sn rov ∧ q_row fzM snM icv ∧ dl ≤ 22528 ∧ (ln = (-1) ∧ cl ln = 0 ∨ ln = nI (cl ln)) ∧ cl ln ≤ 20 ∧ (∀ k, k < cl ln → rov k ≤ 20) ∧ rn ≤ 20 ∧ (∀ k, k < rn → rdv k ≤ 20) ∧ (isr = true → rn = snM) := by
  obtain ⟨⟨rfl, rfl, rfl, rfl, rfl, rfl, rfl, rfl⟩, ⟨h1, h2, h3, h4⟩, ⟨d1, d2, d3, d4, d5⟩, hr, ⟨e1, e2⟩, dc, k1, k2⟩ := h
  have hdl : dl ≤ 22528 := by
    rw [k2]
    exact Nat.le_trans (Nat.mul_le_mul (Nat.pow_le_pow_right (by decide) k1) k1) (by decide)
  refine ⟨h1, h1, h2, h2, by omega, by omega, qr_ext h4 h3, h3, hdl, ?_⟩
  rcases hr with ⟨r1, r2⟩ | ⟨r1, r2, r3, r4, r5⟩
  · subst r2
    exact ⟨Or.inl ⟨rfl, cl_m1⟩, by rw [cl_m1]; omega, fun k hk => by rw [cl_m1] at hk; omega, e1, e2, fun z => by rw [r1] at z; cases z⟩
  · have hcl : cl ln = snM := by rw [r2]; exact cl_nI (by omega)
    exact ⟨Or.inr (by rw [hcl]; exact r2), by omega, fun k hk => by rw [hcl] at hk; rw [r5 k hk]; have := (r4.1 k hk).2; omega, e1, e2, fun _ => r3⟩
/-- the same ways, by their two numbers -/
theorem re_limit (n : Int32) : f2_limit n = f3_limit n := rfl
theorem rl_limit (n : Int32) (h : Rel ln fz mo sn bw tkv opv shv ldv wyv bdv dl rov snM tkvM opvM shvM ldvM lim wyvM bdvM isr rn rdv fzM icv) : Rel ln fz (f2_limit_mo mo n) sn bw tkv opv shv ldv wyv bdv dl rov snM tkvM opvM shvM ldvM (f3_limit_lim lim n) wyvM bdvM isr rn rdv fzM icv := by
  obtain ⟨⟨rfl, rfl, rfl, rfl, rfl, rfl, rfl, rfl⟩, h2, ⟨d1, d2, d3, d4, d5⟩, h4⟩ := h
  refine ⟨⟨rfl, rfl, rfl, rfl, rfl, rfl, rfl, rfl⟩, h2, ⟨d1, ?_, d3, d4, d5⟩, h4⟩
  unfold f2_limit_mo
  by_cases c : (-1 : Int32) ≤ n
  · rw [if_pos c]
    by_cases e : n = -1
    · exact Or.inl e
    · refine Or.inr (fun z => e ?_)
      apply Int32.toInt_inj.mp
      have c' := Int32.le_iff_toInt_le.mp c
      have z' := Int32.lt_iff_toInt_lt.mp z
      have e1 : (-1 : Int32).toInt = -1 := by decide
      have e0 : (0 : Int32).toInt = 0 := by decide
      rw [e1] at c' ⊢
      rw [e0] at z'
      omega
  · rw [if_neg c]; exact d2
theorem ce_point {x : Int32} (hsn : sn ≤ 20) : f1_isPoint sn x = f3_isPlace sn x := by
  unfold f1_isPoint f1_isStop f3_isPlace
  by_cases c0 : x = 0
  · subst c0
    rw [if_pos rfl, if_neg (by decide), if_neg (nI_pos (by omega))]
  · rw [if_neg c0]
    by_cases c1 : x < 0
    · have c2 : x ≤ 0 := Int32.le_of_lt c1
      rw [if_pos c1, if_neg]
      rw [if_pos c2]; decide
    · have c2 : ¬ x ≤ 0 := fun z => by
        rcases Int32.lt_or_eq_of_le z with q | q
        · exact c1 q
        · exact c0 q
      rw [if_neg c1, if_neg c2]
      by_cases c3 : nI sn < x
      · rw [if_pos c3, if_neg (by decide)]
      · rw [if_neg c3, if_pos rfl]
theorem bnd_in5 {x : Int64} (h0 : ¬ x < 0) (h1 : ¬ 100000 < x) : bnd 100000 x := ⟨cN x, (cN_of h0 (Int64.not_lt.mp h1)).2, (cN_of h0 (Int64.not_lt.mp h1)).1⟩
theorem bnd_in6 {x : Int64} (h0 : ¬ x < 0) (h1 : x ≤ 1000000) : bnd 1000000 x := by
  obtain ⟨k, hk, rfl⟩ := pk_lOf h0
  exact ⟨k, (pk_lLE (b := 1000000) hk (by decide)).mp h1, rfl⟩
theorem bnd_up {B k : Nat} {f : Nat → Int64} {x : Int64} (h : ∀ i, bnd B (f i)) (hx : bnd B x) : ∀ i, bnd B (va_up f k x i) := fun i => by
  by_cases e : i = k
  · subst e; rw [va_up_self]; exact hx
  · rw [va_up_ne _ _ e]; exact h i
theorem qr_mono {n B B2 : Nat} {f : Nat → Nat} (h : q_row n B f) (hB : B ≤ B2) : q_row n B2 f := ⟨fun k hk => ⟨(h.1 k hk).1, Nat.le_trans (h.1 k hk).2 hB⟩, h.2⟩
theorem re_stop (ta tb tc : Int64) (h : Rel ln fz mo sn bw tkv opv shv ldv wyv bdv dl rov snM tkvM opvM shvM ldvM lim wyvM bdvM isr rn rdv fzM icv) : f2_stop sn ta tb tc = f3_stop snM ta tb tc := by
  obtain ⟨⟨rfl, -⟩, ⟨h1, -⟩, -⟩ := h
  unfold f2_stop f3_stop f2_isSeconds f1_append
  by_cases c1 : ta < 0
  · simp [c1]
  · by_cases c2 : (100000 : Int64) < ta
    · simp [c1, c2]
    · simp only [if_neg c1, if_neg c2, if_true]
      by_cases c3 : snM = 20
      · rw [if_neg (show ¬ snM < 20 by omega), if_pos c3]
      · rw [if_pos (show snM < 20 by omega), if_neg c3]
theorem rl_stop (ta tb tc : Int64) (h : Rel ln fz mo sn bw tkv opv shv ldv wyv bdv dl rov snM tkvM opvM shvM ldvM lim wyvM bdvM isr rn rdv fzM icv) : Rel (f2_stop_ln ln sn ta tb tc) fz mo (f2_stop_sn sn ta tb tc) bw (f2_stop_tkv sn tkv ta tb tc) (f2_stop_opv sn opv ta tb tc) (f2_stop_shv sn shv ta tb tc) ldv wyv bdv dl rov (f3_stop_sn snM ta tb tc) (f3_stop_tkv snM tkvM ta tb tc) (f3_stop_opv snM opvM ta tb tc) (f3_stop_shv snM shvM ta tb tc) ldvM lim wyvM bdvM (f3_stop_isr snM isr ta tb tc) rn rdv fzM icv := by
  unfold f2_stop_ln f2_stop_sn f2_stop_tkv f2_stop_opv f2_stop_shv f3_stop_sn f3_stop_tkv f3_stop_opv f3_stop_shv f3_stop_isr f2_isSeconds f1_append_sn f1_append_tkv f1_append_opv f1_append_shv
  by_cases c1 : ta < 0
  · simpa [c1] using h
  · by_cases c2 : (100000 : Int64) < ta
    · simpa [c1, c2] using h
    · by_cases c3 : tb < 0
      · simpa [c1, c2, c3] using h
      · by_cases c4 : tc < tb
        · simpa [c1, c2, c3, c4] using h
        · by_cases c5 : tc ≤ 1000000
          · by_cases c6 : sn < 20
            · obtain ⟨⟨rfl, rfl, rfl, rfl, rfl, rfl, rfl, rfl⟩, ⟨h1, h2, h3, h4⟩, ⟨⟨x1, x2, x3, x4, x5, x6, x7, x8⟩, d2, d3, d4, d5⟩, hr, he, hdc⟩ := h
              have c7 : ¬ snM = 20 := by omega
              simp only [if_neg c1, if_neg c2, if_neg c3, if_neg c4, if_pos c5, if_pos c6, if_neg c7, if_true]
              have b1 := bnd_in5 c1 c2
              have c8 : ¬ tc < 0 := fun z => c4 (Int64.lt_of_lt_of_le z (Int64.not_lt.mp c3))
              have b3 := bnd_in6 c8 c5
              have b2 : bnd 1000000 tb := bnd_in6 c3 (Int64.le_trans (Int64.not_lt.mp c4) c5)
              refine ⟨⟨rfl, rfl, rfl, rfl, rfl, rfl, rfl, rfl⟩, ⟨by omega, by omega, qr_mono h3 (by omega), h4⟩, ⟨⟨bnd_up x1 b1, bnd_up x2 b2, bnd_up x3 b3, fun i hi => ?_, x5, ?_, ?_, ?_⟩, d2, d3, d4, fun i hi => d5 i (by omega)⟩, Or.inl ⟨rfl, rfl⟩, he, hdc⟩
              · by_cases e : i = snM + 1
                · subst e; rw [va_up_self, va_up_self]
                · rw [va_up_ne _ _ e, va_up_ne _ _ e]; exact x4 i hi
              · rw [va_up_ne _ _ (by omega)]; exact x6
              · rw [va_up_ne _ _ (by omega)]; exact x7
              · rw [va_up_ne _ _ (by omega)]; exact x8
            · have c7 : snM = 20 := by obtain ⟨⟨rfl, -⟩, ⟨h1, -⟩, -⟩ := id h; omega
              simpa [c1, c2, c3, c4, c5, c6, c7] using h
          · simpa [c1, c2, c3, c4, c5] using h
theorem rl_way (a b : Int32) (t : Int64) (h : Rel ln fz mo sn bw tkv opv shv ldv wyv bdv dl rov snM tkvM opvM shvM ldvM lim wyvM bdvM isr rn rdv fzM icv) : Rel ln fz mo sn bw tkv opv shv ldv (f2_way_wyv sn wyv a b t) bdv dl rov snM tkvM opvM shvM ldvM lim (f3_way_wyv snM wyvM a b t) bdvM isr rn rdv fzM icv := by
  obtain ⟨⟨rfl, rfl, rfl, rfl, rfl, rfl, rfl, rfl⟩, ⟨h1, h2, h3, h4⟩, ⟨⟨x1, x2, x3, x4, x5, x6, x7, x8⟩, d2, d3, d4, d5⟩, hr⟩ := h
  unfold f2_way_wyv f3_way_wyv f2_isSeconds f1_tellWay_wyv
  rw [ce_point h1, ce_point h1]
  by_cases c1 : f3_isPlace snM a = true
  · by_cases c2 : f3_isPlace snM b = true
    · by_cases c3 : cl a = cl b
      · simp only [if_pos c1, if_pos c2, if_pos c3]
        exact ⟨⟨rfl, rfl, rfl, rfl, rfl, rfl, rfl, rfl⟩, ⟨h1, h2, h3, h4⟩, ⟨⟨x1, x2, x3, x4, x5, x6, x7, x8⟩, d2, d3, d4, d5⟩, hr⟩
      · by_cases c4 : t < 0
        · simp only [if_pos c1, if_pos c2, if_neg c3, if_pos c4, Bool.false_eq_true, if_false]
          exact ⟨⟨rfl, rfl, rfl, rfl, rfl, rfl, rfl, rfl⟩, ⟨h1, h2, h3, h4⟩, ⟨⟨x1, x2, x3, x4, x5, x6, x7, x8⟩, d2, d3, d4, d5⟩, hr⟩
        · by_cases c5 : (100000 : Int64) < t
          · have c6 : ¬ t ≤ 100000 := Int64.not_le.mpr c5
            simp only [if_pos c1, if_pos c2, if_neg c3, if_neg c4, if_pos c5, if_neg c6, Bool.false_eq_true, if_false]
            exact ⟨⟨rfl, rfl, rfl, rfl, rfl, rfl, rfl, rfl⟩, ⟨h1, h2, h3, h4⟩, ⟨⟨x1, x2, x3, x4, x5, x6, x7, x8⟩, d2, d3, d4, d5⟩, hr⟩
          · have c6 : t ≤ 100000 := Int64.not_lt.mp c5
            simp only [if_pos c1, if_pos c2, if_neg c3, if_neg c4, if_neg c5, if_pos c6, if_true]
            rw [Nat.mul_comm (cl a) 21]
            exact ⟨⟨rfl, rfl, rfl, rfl, rfl, rfl, rfl, rfl⟩, ⟨h1, h2, h3, h4⟩, ⟨⟨x1, x2, x3, x4, bnd_up x5 (bnd_in5 c4 c5), x6, x7, x8⟩, d2, d3, d4, d5⟩, hr⟩
    · simp only [if_pos c1, if_neg c2]
      exact ⟨⟨rfl, rfl, rfl, rfl, rfl, rfl, rfl, rfl⟩, ⟨h1, h2, h3, h4⟩, ⟨⟨x1, x2, x3, x4, x5, x6, x7, x8⟩, d2, d3, d4, d5⟩, hr⟩
  · simp only [if_neg c1]
    exact ⟨⟨rfl, rfl, rfl, rfl, rfl, rfl, rfl, rfl⟩, ⟨h1, h2, h3, h4⟩, ⟨⟨x1, x2, x3, x4, x5, x6, x7, x8⟩, d2, d3, d4, d5⟩, hr⟩
theorem ce_loads_z : ∀ (n : Nat) (u : Int32) (k : Nat), (∀ i, k ≤ i → ldv i = 0) → (f3_allLoads_lp ldv n u k).1 = u := by
  intro n
  induction n with
  | zero => intro u k _; rfl
  | succ n ih =>
    intro u k h
    unfold f3_allLoads_lp
    rw [ih _ _ (fun i hi => h i (by omega)), h k (Nat.le_refl _), Int32.add_zero]
theorem ce_loads_lp : ∀ (n m : Nat) (u : Int32) (k : Nat), (∀ i, k + n ≤ i → ldv i = 0) → (f1_loads_lp ldv n u k).1 = (f3_allLoads_lp ldv (n + m) u k).1 := by
  intro n
  induction n with
  | zero =>
    intro m u k h
    rw [Nat.zero_add, ce_loads_z m u k (fun i hi => h i (by omega))]; rfl
  | succ n ih =>
    intro m u k h
    have e : n + 1 + m = (n + m) + 1 := by omega
    rw [e]
    unfold f1_loads_lp f3_allLoads_lp
    exact ih m _ _ (fun i hi => h i (by omega))
theorem ce_loads (hsn : sn ≤ 20) (h : ∀ i, sn < i → ldv i = 0) : f1_loads sn ldv = f3_allLoads ldv := by
  unfold f1_loads f3_allLoads
  have e : sn + (20 - sn) = 20 := by omega
  rw [ce_loads_lp sn (20 - sn) _ _ (fun i hi => h i (by omega)), e]
theorem rl_load (x y : Int32) (h : Rel ln fz mo sn bw tkv opv shv ldv wyv bdv dl rov snM tkvM opvM shvM ldvM lim wyvM bdvM isr rn rdv fzM icv) : Rel ln fz mo sn bw tkv opv shv (f2_load_ldv sn ldv x y) wyv bdv dl rov snM tkvM opvM shvM (f3_load_ldv snM ldvM x y) lim wyvM bdvM isr rn rdv fzM icv := by
  obtain ⟨⟨rfl, rfl, rfl, rfl, rfl, rfl, rfl, rfl⟩, ⟨h1, h2, h3, h4⟩, ⟨d1, d2, d3, d4, d5⟩, hr⟩ := h
  have e : f2_load_ldv snM ldvM x y = f3_load_ldv snM ldvM x y := rfl
  rw [e]
  refine ⟨⟨rfl, rfl, rfl, rfl, rfl, rfl, rfl, rfl⟩, ⟨h1, h2, h3, h4⟩, ⟨d1, d2, d3, d4, fun i hi => ?_⟩, hr⟩
  unfold f3_load_ldv
  by_cases c1 : f3_isStop snM x = true
  · rw [if_pos c1]
    obtain ⟨_, q2, q3⟩ := q3_stop c1 h1
    split
    · exact d5 i hi
    · split
      · rw [va_up_ne _ _ (by omega)]; exact d5 i hi
      · exact d5 i hi
  · rw [if_neg c1]; exact d5 i hi
theorem re_load (x y : Int32) (h : Rel ln fz mo sn bw tkv opv shv ldv wyv bdv dl rov snM tkvM opvM shvM ldvM lim wyvM bdvM isr rn rdv fzM icv) : f2_load sn ldv x y = f3_load snM ldvM x y := by
  have h9 := rl_load x y h
  obtain ⟨⟨rfl, rfl, rfl, rfl, rfl, rfl, rfl, rfl⟩, ⟨h1, -⟩, -⟩ := h
  obtain ⟨-, -, ⟨-, -, -, -, d5⟩, -⟩ := h9
  unfold f2_load f3_load
  have e0 : f1_isStop snM x = f3_isStop snM x := rfl
  rw [e0]
  by_cases c1 : f3_isStop snM x = true
  · rw [if_pos c1, if_pos c1]
    by_cases c2 : y < 0
    · rw [if_pos c2, if_pos c2]
    · rw [if_neg c2, if_neg c2]
      by_cases c3 : y ≤ nI 1000
      · rw [if_pos c3, if_pos c3]
        have e2 : f2_load_ldv snM ldvM x y = f1_tellLoad_ldv ldvM (cl x) y := by
          unfold f2_load_ldv
          rw [e0, if_pos c1, if_neg c2, if_pos c3]
        rw [e2] at d5
        exact ce_loads h1 d5
      · rw [if_neg c3, if_neg c3]
  · rw [if_neg c1, if_neg c1]
theorem q3_frz_lp : ∀ (n k : Nat) (icv : Nat → Nat) (j : Nat), (f3_freeze_lp rdv n k icv).2 j = if k ≤ j ∧ j < k + n then rdv j else icv j := by
  intro n
  induction n with
  | zero => intro k icv j; rw [if_neg (by omega)]; rfl
  | succ n ih =>
    intro k icv j
    unfold f3_freeze_lp
    rw [ih]
    by_cases h1 : k + 1 ≤ j ∧ j < k + 1 + n
    · rw [if_pos h1, if_pos (by omega)]
    · rw [if_neg h1]
      by_cases h2 : j = k
      · subst h2; rw [if_pos (by omega), va_up_self]
      · rw [if_neg (by omega), va_up_ne _ _ h2]
theorem nI_ne_m1 (hsn : sn ≤ 20) : ¬ nI sn = (-1) := fun z => by
  have h := nI_pos (n := sn) (by omega)
  rw [z] at h; exact h (by decide)
theorem re_freeze (y : Int32) (h : Rel ln fz mo sn bw tkv opv shv ldv wyv bdv dl rov snM tkvM opvM shvM ldvM lim wyvM bdvM isr rn rdv fzM icv) : f2_freeze ln y = f3_freeze isr rn y := by
  obtain ⟨⟨rfl, rfl, rfl, rfl, rfl, rfl, rfl, rfl⟩, ⟨h1, h2, h3, h4⟩, -, hr, -⟩ := h
  unfold f2_freeze f3_freeze
  by_cases c1 : y < 0
  · rw [if_pos c1, if_pos c1]
  · rw [if_neg c1, if_neg c1]
    rcases hr with ⟨r1, r2⟩ | ⟨r1, r2, r3, r4, r5⟩
    · subst r1; subst r2; rw [if_pos rfl, if_neg (by decide)]
    · subst r1; subst r3
      rw [if_neg (by rw [r2]; exact nI_ne_m1 h1), if_pos rfl, r2]
theorem rl_freeze (y : Int32) (h : Rel ln fz mo sn bw tkv opv shv ldv wyv bdv dl rov snM tkvM opvM shvM ldvM lim wyvM bdvM isr rn rdv fzM icv) : Rel ln (f2_freeze_fz ln fz y) mo sn bw tkv opv shv ldv wyv bdv dl rov snM tkvM opvM shvM ldvM lim wyvM bdvM isr rn rdv (f3_freeze_fz isr rn fzM y) (f3_freeze_icv isr rn rdv icv y) := by
  obtain ⟨⟨rfl, rfl, rfl, rfl, rfl, rfl, rfl, rfl⟩, ⟨h1, h2, h3, h4⟩, hd, hr, he⟩ := h
  unfold f2_freeze_fz f3_freeze_fz f3_freeze_icv
  by_cases c1 : y < 0
  · simp only [if_pos c1]
    exact ⟨⟨rfl, rfl, rfl, rfl, rfl, rfl, rfl, rfl⟩, ⟨h1, h2, h3, h4⟩, hd, hr, he⟩
  · simp only [if_neg c1]
    rcases hr with ⟨r1, r2⟩ | ⟨r1, r2, r3, r4, r5⟩
    · subst r1; subst r2
      simp only [if_true, Bool.false_eq_true, if_false]
      exact ⟨⟨rfl, rfl, rfl, rfl, rfl, rfl, rfl, rfl⟩, ⟨h1, h2, h3, h4⟩, hd, Or.inl ⟨rfl, rfl⟩, he⟩
    · subst r1; subst r3
      have n1 : ¬ ln = (-1) := by rw [r2]; exact nI_ne_m1 h1
      rw [if_neg n1]
      by_cases c2 : y ≤ nI rn
      · have c3 : y ≤ ln := by rw [r2]; exact c2
        simp only [if_pos c3, if_pos c2, if_true]
        have hy := cl_lep c1 c2 (by omega)
        have hi : ∀ i, i < cl y → (f3_freeze_lp rdv (cl y) 0 icv).2 i = rdv i := fun i hi => by rw [q3_frz_lp, if_pos (by omega)]
        exact ⟨⟨rfl, rfl, rfl, rfl, rfl, rfl, rfl, rfl⟩, ⟨h1, hy, qr_ext hi ⟨fun k hk => r4.1 k (by omega), fun i j hi hj => r4.2 i j (by omega) (by omega)⟩, fun i hi2 => by rw [hi i hi2]; exact r5 i (by omega)⟩, hd, Or.inr ⟨rfl, r2, rfl, r4, r5⟩, he⟩
      · have c3 : ¬ y ≤ ln := by rw [r2]; exact c2
        simp only [if_neg c3, if_neg c2, if_true]
        exact ⟨⟨rfl, rfl, rfl, rfl, rfl, rfl, rfl, rfl⟩, ⟨h1, h2, h3, h4⟩, hd, Or.inr ⟨rfl, r2, rfl, r4, r5⟩, he⟩
/-- counting what is barred -/
theorem q3_cnt_up {f : Nat → Bool} {q : Nat} {v : Bool} : ∀ (n u k : Nat), (f3_arc_lp (va_up f q v) n u k).1 + (if k ≤ q ∧ q < k + n ∧ f q = true then 1 else 0) = (f3_arc_lp f n u k).1 + (if k ≤ q ∧ q < k + n ∧ v = true then 1 else 0) := by
  intro n
  induction n with
  | zero => intro u k; rw [if_neg (by omega), if_neg (by omega)]; rfl
  | succ n ih =>
    intro u k
    unfold f3_arc_lp
    by_cases e : k = q
    · subst e
      rw [va_up_self]
      have key : ∀ (w : Nat), (f3_arc_lp (va_up f k v) n w (k + 1)).1 = (f3_arc_lp f n w (k + 1)).1 := fun w => by
        have := ih w (k + 1)
        rw [if_neg (by omega), if_neg (by omega)] at this
        exact this
      have add : ∀ (g : Nat → Bool) (n w k : Nat), (f3_arc_lp g n (w + 1) k).1 = (f3_arc_lp g n w k).1 + 1 := by
        intro g n
        induction n with
        | zero => intro w k; rfl
        | succ n ih2 =>
          intro w k
          unfold f3_arc_lp
          by_cases c : g k = true
          · rw [if_pos c, if_pos c]; exact ih2 _ _
          · rw [if_neg c, if_neg c]; exact ih2 _ _
      rw [key]
      cases v <;> cases hf : f k <;> simp [add]
    · rw [va_up_ne _ _ e]
      have := ih (if f k = true then u + 1 else u) (k + 1)
      have e1 : (k + 1 ≤ q ∧ q < k + 1 + n ∧ f q = true) ↔ (k ≤ q ∧ q < k + (n + 1) ∧ f q = true) := by constructor <;> (rintro ⟨a, b, c⟩; exact ⟨by omega, by omega, c⟩)
      have e2 : (k + 1 ≤ q ∧ q < k + 1 + n ∧ v = true) ↔ (k ≤ q ∧ q < k + (n + 1) ∧ v = true) := by constructor <;> (rintro ⟨a, b, c⟩; exact ⟨by omega, by omega, c⟩)
      simp only [e1, e2] at this
      exact this
theorem q3_cnt_le {f : Nat → Bool} : ∀ (n u k : Nat), (f3_arc_lp f n u k).1 ≤ u + n := by
  intro n
  induction n with
  | zero => intro u k; exact Nat.le_refl _
  | succ n ih =>
    intro u k
    unfold f3_arc_lp
    split
    · have := ih (u + 1) (k + 1); omega
    · have := ih u (k + 1); omega
theorem ce_bar {q : Nat} (hq : q < 441) {v : Bool} (hb : bw = nI (f3_arc_lp bdv 441 0 0).1) {a b : Nat} (e : a * 21 + b = q) : f1_bar_bw bw bdv a b v = nI (f3_arc_lp (va_up bdv q v) 441 0 0).1 ∧ f1_bar_bdv bdv a b v = va_up bdv q v := by
  unfold f1_bar_bw f1_bar_bdv
  rw [e]
  have hc := q3_cnt_up (f := bdv) (q := q) (v := v) 441 0 0
  have hle := q3_cnt_le (f := bdv) 441 0 0
  have hbI : bI (bdv q) = bI v ↔ bdv q = v := by cases bdv q <;> cases v <;> decide
  by_cases c : bdv q = v
  · rw [if_pos (hbI.mpr c), if_pos (hbI.mpr c)]
    have e2 : va_up bdv q v = bdv := by
      funext j
      by_cases z : j = q
      · subst z; rw [va_up_self]; exact c.symm
      · rw [va_up_ne _ _ z]
    rw [e2]; exact ⟨hb, rfl⟩
  · rw [if_neg (fun z => c (hbI.mp z)), if_neg (fun z => c (hbI.mp z))]
    refine ⟨?_, rfl⟩
    rw [hb]
    cases v with
    | true =>
      have c2 : bdv q = false := by cases hh : bdv q <;> simp_all
      rw [c2, if_neg (by simp), if_pos ⟨by omega, by omega, rfl⟩] at hc
      rw [if_pos rfl, Nat.add_zero] at *
      rw [hc]; exact (nI_add _ 1)
    | false =>
      have c2 : bdv q = true := by cases hh : bdv q <;> simp_all
      rw [c2, if_pos ⟨by omega, by omega, rfl⟩, if_neg (by simp)] at hc
      rw [if_neg (by decide)]
      have h2 : (f3_arc_lp bdv 441 0 0).1 = (f3_arc_lp (va_up bdv q false) 441 0 0).1 + 1 := by omega
      rw [h2, ← nI_add _ 1]
      show nI _ + nI 1 + (-1) = _
      rw [Int32.add_assoc]
      have : nI 1 + (-1) = 0 := by decide
      rw [this, Int32.add_zero]
theorem rl_arc' (a b y : Int32) (h : Rel ln fz mo sn bw tkv opv shv ldv wyv bdv dl rov snM tkvM opvM shvM ldvM lim wyvM bdvM isr rn rdv fzM icv) : Rel ln fz mo sn (f2_arc_bw sn bw bdv a b y) tkv opv shv ldv wyv (f2_arc_bdv sn bdv a b y) dl rov snM tkvM opvM shvM ldvM lim wyvM (f3_arc_bdv snM bdvM a b y) isr rn rdv fzM icv ∧ f2_arc sn bw bdv a b y = f3_arc snM bdvM a b y := by
  have h0 := h
  obtain ⟨⟨rfl, rfl, rfl, rfl, rfl, rfl, rfl, rfl⟩, ⟨h1, h2, h3, h4⟩, ⟨d1, d2, d3, d4, d5⟩, hr⟩ := h
  unfold f2_arc_bw f2_arc_bdv f3_arc_bdv f2_arc f3_arc
  rw [ce_point h1, ce_point h1]
  by_cases c1 : f3_isPlace snM a = true
  · by_cases c2 : f3_isPlace snM b = true
    · by_cases c3 : y < 0
      · simp only [if_pos c1, if_pos c2, if_pos c3]; exact ⟨h0, trivial⟩
      · by_cases c4 : nI 1 < y
        · simp only [if_pos c1, if_pos c2, if_neg c3, if_pos c4]; exact ⟨h0, trivial⟩
        · by_cases c5 : cl a = cl b
          · simp only [if_pos c1, if_pos c2, if_neg c3, if_neg c4, if_pos c5]; exact ⟨h0, trivial⟩
          · simp only [if_pos c1, if_pos c2, if_neg c3, if_neg c4, if_neg c5]
            obtain ⟨_, a2⟩ := q3_place c1 h1
            obtain ⟨_, b2⟩ := q3_place c2 h1
            have hbar := ce_bar (q := 21 * cl a + cl b) (by omega) (v := if y = 0 then true else false) d4 (a := cl a) (b := cl b) (by omega)
            rw [hbar.1, hbar.2]
            refine ⟨⟨⟨rfl, rfl, rfl, rfl, rfl, rfl, rfl, rfl⟩, ⟨h1, h2, h3, h4⟩, ⟨d1, d2, ?_, rfl, d5⟩, hr⟩, hbar.1⟩
            rw [va_up_ne _ _ (by omega)]; exact d3
    · simp only [if_pos c1, if_neg c2]; exact ⟨h0, trivial⟩
  · simp only [if_neg c1]; exact ⟨h0, trivial⟩
theorem rl_arc (a b y : Int32) (h : Rel ln fz mo sn bw tkv opv shv ldv wyv bdv dl rov snM tkvM opvM shvM ldvM lim wyvM bdvM isr rn rdv fzM icv) : Rel ln fz mo sn (f2_arc_bw sn bw bdv a b y) tkv opv shv ldv wyv (f2_arc_bdv sn bdv a b y) dl rov snM tkvM opvM shvM ldvM lim wyvM (f3_arc_bdv snM bdvM a b y) isr rn rdv fzM icv := (rl_arc' a b y h).1
theorem re_arc (a b y : Int32) (h : Rel ln fz mo sn bw tkv opv shv ldv wyv bdv dl rov snM tkvM opvM shvM ldvM lim wyvM bdvM isr rn rdv fzM icv) : f2_arc sn bw bdv a b y = f3_arc snM bdvM a b y := (rl_arc' a b y h).2
end REL

