section RS3
variable {ln : Int32} {fz : Nat} {mo : Int32} {sn : Nat} {bw : Int32} {tkv opv shv : Nat → Int64} {ldv : Nat → Int32} {wyv : Nat → Int64} {bdv : Nat → Bool} {dl : Nat} {rov : Nat → Nat} {snM : Nat} {tkvM opvM shvM : Nat → Int64} {ldvM : Nat → Int32} {lim : Int32} {wyvM : Nat → Int64} {bdvM : Nat → Bool} {isr : Bool} {rn : Nat} {rdv : Nat → Nat} {fzM : Nat} {icv : Nat → Nat}
/-- a row of all stops holds each -/
theorem qr_surj {n : Nat} {f : Nat → Nat} (h : q_row n n f) {x : Nat} (h1 : 1 ≤ x) (h2 : x ≤ n) : ∃ i, i < n ∧ f i = x := by
  rcases Classical.em (∃ i, i < n ∧ f i = x) with z | z
  · exact z
  · exfalso
    have h0 := q_cnt_none (f := f) n (fun i hi => (h.1 i hi).1)
    have h9 := q_cnt_all (f := f) (b := n + 1) n (fun i hi => by have := (h.1 i hi).2; omega)
    have key : ∀ b, q_cnt f n (b + 1) ≤ b ∧ (x ≤ b → q_cnt f n (b + 1) + 1 ≤ b) := by
      intro b
      induction b with
      | zero => rw [h0]; exact ⟨Nat.le_refl _, fun q => by omega⟩
      | succ b ih =>
        rw [q_cnt_s (b := b + 1) n h.2]
        by_cases e : x = b + 1
        · subst e
          rw [if_neg z]
          exact ⟨by omega, fun _ => by omega⟩
        · split
          · exact ⟨by omega, fun q => by have := ih.2 (by omega); omega⟩
          · exact ⟨by omega, fun q => by have := ih.2 (by omega); omega⟩
    have := (key n).2 h2
    omega
theorem q3_alp {x p : Nat} (hp : rdv p = x) : ∀ (n pl k : Nat), (∀ i, k ≤ i → i < k + n → rdv i = x → i = p) → (k ≤ p ∧ p < k + n → (f3_add_lp rdv x n pl k).1 = p) ∧ (p < k ∧ pl = p → (f3_add_lp rdv x n pl k).1 = p) := by
  intro n
  induction n with
  | zero => intro pl k _; exact ⟨fun z => by omega, fun z => z.2⟩
  | succ n ih =>
    intro pl k h
    unfold f3_add_lp
    have ih' := ih (if rdv k = x then k else pl) (k + 1) (fun i h1 h2 => h i (by omega) (by omega))
    refine ⟨fun z => ?_, fun z => ?_⟩
    · by_cases e : k = p
      · subst e
        exact ih'.2 ⟨by omega, by rw [if_pos hp]⟩
      · exact ih'.1 ⟨by omega, by omega⟩
    · refine ih'.2 ⟨by omega, ?_⟩
      by_cases c : rdv k = x
      · have := h k (Nat.le_refl _) (by omega) c; omega
      · rw [if_neg c]; exact z.2
theorem ce_alp : ∀ (n k : Nat) (r : Nat → Nat) (j : Nat), (f2_add_lp n k r).2 j = if k ≤ j ∧ j < k + n then r (j + 1) else if j = k + n ∧ 0 < n then r k else r j := by
  intro n
  induction n with
  | zero => intro k r j; rw [if_neg (by omega), if_neg (by omega)]; rfl
  | succ n ih =>
    intro k r j
    unfold f2_add_lp
    rw [ih]
    unfold f2_swap_rov
    by_cases c1 : k ≤ j ∧ j < k + (n + 1)
    · rw [if_pos c1]
      by_cases c2 : k + 1 ≤ j ∧ j < k + 1 + n
      · rw [if_pos c2, va_up_ne _ _ (by omega), va_up_ne _ _ (by omega)]
      · have e : j = k := by omega
        subst e
        rw [if_neg c2, if_neg (by omega), va_up_ne _ _ (by omega), va_up_self]
    · rw [if_neg c1]
      by_cases c2 : j = k + (n + 1) ∧ 0 < n + 1
      · rw [if_pos c2, if_neg (by omega)]
        by_cases c3 : j = k + 1 + n ∧ 0 < n
        · rw [if_pos c3, va_up_self]
        · have e : n = 0 := by omega
          subst e
          have e2 : j = k + 1 := by omega
          subst e2
          rw [if_neg c3, va_up_self]
      · rw [if_neg c2, if_neg (by omega), if_neg (by omega), va_up_ne _ _ (by omega), va_up_ne _ _ (by omega)]
theorem rl_add' {rm : Nat → Nat} (x : Int32) (h : Rel ln fz mo sn bw tkv opv shv ldv wyv bdv dl rov snM tkvM opvM shvM ldvM lim wyvM bdvM isr rn rdv fzM icv) : Rel ln fz mo sn bw tkv opv shv ldv wyv bdv dl (f2_add_rov fz sn tkv opv shv wyv bdv rov x (cl ln)) snM tkvM opvM shvM ldvM lim wyvM bdvM (f3_add_isr snM isr rn rdv fzM x) (f3_add_rn snM isr rn rdv fzM x) (f3_add_rdv snM tkvM opvM shvM wyvM bdvM isr rn rdv fzM rm x) fzM icv ∧ f2_add fz sn tkv opv shv wyv bdv rov x (cl ln) = f3_add snM tkvM opvM shvM wyvM bdvM isr rn rdv fzM rm x := by
  have h0 := h
  have hF := rel_facts h
  obtain ⟨⟨rfl, rfl, rfl, rfl, rfl, rfl, rfl, rfl⟩, ⟨h1, h2, h3, h4⟩, ⟨d1, d2, d3, d4, d5⟩, hr, he, hdc⟩ := h
  have hs : ∀ i, 1 ≤ i → shv i = shvM i := d1.2.2.2.1
  unfold f2_add_rov f3_add_isr f3_add_rn f3_add_rdv f2_add f3_add
  have e0 : f1_isStop snM x = f3_isStop snM x := rfl
  rw [e0]
  by_cases c1 : f3_isStop snM x = true
  · simp only [if_pos c1]
    obtain ⟨x1, x2, x3⟩ := q3_stop c1 h1
    rcases hr with ⟨r1, r2⟩ | ⟨r1, r2, r3, r4, r5⟩
    · subst r1; subst r2
      have hp : f2_placeOf rov (cl x) (cl (-1)) = (-1) := by rw [cl_m1]; rfl
      have n1 : ¬ nI fzM ≤ f2_placeOf rov (cl x) (cl (-1)) := by
        rw [hp]
        intro z
        rw [Int32.le_iff_toInt_le, nI_toInt (by omega)] at z
        have : ((-1 : Int32)).toInt = -1 := by decide
        omega
      simp only [if_neg n1, Bool.false_eq_true, if_false]
      exact ⟨h0, trivial⟩
    · subst r1; subst r3
      have hcl : cl ln = rn := by rw [r2]; exact cl_nI (by omega)
      rw [hcl]
      obtain ⟨p, p1, p2⟩ := qr_surj r4 x2 x3
      have hu : ∀ i, i < rn → rdv i = cl x → i = p := fun i hi z => r4.2 i p hi p1 (z.trans p2.symm)
      have hpm : (f3_add_lp rdv (cl x) rn 0 0).1 = p := (q3_alp p2 rn 0 0 (fun i _ hi z => hu i (by omega) z)).1 ⟨by omega, by omega⟩
      have hpc : f2_placeOf rov (cl x) rn = nI p := by
        rcases q2_place_lp (rov := rov) (x := cl x) rn 0 with ⟨_, b⟩ | ⟨q, q1, q2, q3, q4⟩
        · exact absurd (by rw [r5 p p1]; exact p2) (b p (Nat.zero_le _) (by omega))
        · have : q = p := hu q (by omega) (by rw [← r5 q (by omega)]; exact q3)
          subst this
          exact q4
      rw [hpm, hpc, cl_nI (by omega)]
      simp only [if_true]
      by_cases c2 : fzM ≤ p
      · have c3 : nI fzM ≤ nI p := (nI_leI (by omega) (by omega)).mpr c2
        simp only [if_pos c2, if_pos c3]
        have hfe : ∀ j, j < rn → f3_fetch_rov rn rdv rm j = rdv j := fun j hj => by rw [q3_fetch, if_pos hj]
        have hq := qr_ext hfe r4
        obtain ⟨t1, t2⟩ := qr_takeOut hq p1
        rw [hfe p p1, p2] at t2
        have hrow : ∀ j, j < rn - 1 → (f2_add_lp (rn - p - 1) p rov).2 j = f3_takeOut_rov rn (f3_fetch_rov rn rdv rm) p j := fun j hj => by
          rw [ce_alp, q3_takeOut p1]
          by_cases c4 : p ≤ j
          · rw [if_pos (by omega), if_pos (by omega), hfe _ (by omega)]; exact r5 _ (by omega)
          · rw [if_neg (by omega), if_neg (by omega), if_neg (by omega), hfe _ (by omega)]; exact r5 _ (by omega)
        have h1' : ∀ j, j < rn - 1 → 1 ≤ f3_takeOut_rov rn (f3_fetch_rov rn rdv rm) p j := fun j hj => (t1.1 j hj).1
        obtain ⟨i1, i2, i3, i4⟩ := ce_insert (tkv := tkvM) (opv := opvM) (shv := shv) (wyv := wyvM) (bdv := bdvM) (r := (f2_add_lp (rn - p - 1) p rov).2) (x := cl x) (co := rn - 1) (fz := fzM) (by omega) (by omega)
        obtain ⟨s1, s2, s3⟩ := ce_ins_rs (tkv := tkvM) (opv := opvM) (wyv := wyvM) (bdv := bdvM) (fz := fzM) hs x2 (show rn - 1 ≤ 19 by omega) (by omega) hrow h1'
        obtain ⟨q1, q2, q3⟩ := qr_insert (tkv := tkvM) (opv := opvM) (shv := shvM) (wyv := wyvM) (bdv := bdvM) (fz := fzM) (show rn - 1 ≤ 19 by omega) (by omega) t1 x2 x3 t2
        have e1 : rn - 1 + 1 = rn := by omega
        rw [e1] at i4 s2 q1
        have ers : f3_insert_rs (rn - 1) = rn := by show rn - 1 + 1 = rn; omega
        rw [ers]
        refine ⟨?_, by rw [← i1]; exact s1⟩
        have := rl_mk h0 (dl' := dl) (RC := f2_insert_rov fzM tkvM opvM shv wyvM bdvM (f2_add_lp (rn - p - 1) p rov).2 (cl x) (rn - 1)) (RM := f3_insert_rov tkvM opvM shvM wyvM bdvM fzM (rn - 1) (f3_takeOut_rov rn (f3_fetch_rov rn rdv rm) p) (cl x)) (RDV := f3_keep_rdv rdv rn (f3_insert_rov tkvM opvM shvM wyvM bdvM fzM (rn - 1) (f3_takeOut_rov rn (f3_fetch_rov rn rdv rm) p) (cl x))) (fun j hj => by rw [i4 j hj]; exact s2 j hj) q1 (fun i hi => by rw [q2 i hi, q3_takeOut p1, if_neg (by omega), hfe i (by omega), ← r5 i (by omega)]; exact h4 i hi) (fun j hj => by rw [q3_keep, if_pos hj]) hdc
        rw [← r2] at this
        exact this
      · have c3 : ¬ nI fzM ≤ nI p := fun z => c2 ((nI_leI (by omega) (by omega)).mp z)
        simp only [if_neg c2, if_neg c3]
        exact ⟨h0, trivial⟩
  · simp only [if_neg c1]
    exact ⟨h0, trivial⟩
theorem rl_add {rm : Nat → Nat} (x : Int32) (h : Rel ln fz mo sn bw tkv opv shv ldv wyv bdv dl rov snM tkvM opvM shvM ldvM lim wyvM bdvM isr rn rdv fzM icv) : Rel ln fz mo sn bw tkv opv shv ldv wyv bdv dl (f2_add_rov fz sn tkv opv shv wyv bdv rov x (cl ln)) snM tkvM opvM shvM ldvM lim wyvM bdvM (f3_add_isr snM isr rn rdv fzM x) (f3_add_rn snM isr rn rdv fzM x) (f3_add_rdv snM tkvM opvM shvM wyvM bdvM isr rn rdv fzM rm x) fzM icv := (rl_add' x h).1
theorem re_add {rm : Nat → Nat} (x : Int32) (h : Rel ln fz mo sn bw tkv opv shv ldv wyv bdv dl rov snM tkvM opvM shvM ldvM lim wyvM bdvM isr rn rdv fzM icv) : f2_add fz sn tkv opv shv wyv bdv rov x (cl ln) = f3_add snM tkvM opvM shvM wyvM bdvM isr rn rdv fzM rm x := (rl_add' x h).2
theorem rl_exchange' {rm : Nat → Nat} (x y : Int32) (h : Rel ln fz mo sn bw tkv opv shv ldv wyv bdv dl rov snM tkvM opvM shvM ldvM lim wyvM bdvM isr rn rdv fzM icv) : Rel ln fz mo sn bw tkv opv shv ldv wyv bdv dl (f2_exchange_rov ln fz tkv opv shv wyv bdv rov x y (cl ln)) snM tkvM opvM shvM ldvM lim wyvM bdvM (f3_exchange_isr tkvM opvM shvM wyvM bdvM isr rn rdv fzM rm x y) (f3_exchange_rn tkvM opvM shvM wyvM bdvM isr rn rdv fzM rm x y) (f3_exchange_rdv tkvM opvM shvM wyvM bdvM isr rn rdv fzM rm x y) fzM icv ∧ f2_exchange ln fz tkv opv shv wyv bdv rov x y (cl ln) = f3_exchange tkvM opvM shvM wyvM bdvM isr rn rdv fzM rm x y := by
  have h0 := h
  obtain ⟨⟨rfl, rfl, rfl, rfl, rfl, rfl, rfl, rfl⟩, ⟨h1, h2, h3, h4⟩, ⟨d1, d2, d3, d4, d5⟩, hr, he, hdc⟩ := h
  have hs : ∀ i, 1 ≤ i → shv i = shvM i := d1.2.2.2.1
  unfold f2_exchange_rov f3_exchange_isr f3_exchange_rn f3_exchange_rdv f2_exchange f3_exchange f2_isPlace
  by_cases c1 : x < 0
  · simp only [if_pos c1, Bool.false_eq_true, if_false]; exact ⟨h0, trivial⟩
  · simp only [if_neg c1]
    by_cases c2 : y < 0
    · have c3 : ¬ (0 : Int32) ≤ y := Int32.not_le.mpr c2
      simp only [if_pos c2, if_neg c3, Bool.false_eq_true, if_false, ite_self]; exact ⟨h0, trivial⟩
    · have c3 : (0 : Int32) ≤ y := Int32.not_lt.mp c2
      simp only [if_neg c2, if_pos c3]
      rcases hr with ⟨r1, r2⟩ | ⟨r1, r2, r3, r4, r5⟩
      · subst r1; subst r2
        simp only [if_true, Bool.false_eq_true, if_false]
        exact ⟨h0, trivial⟩
      · subst r1; subst r3
        have hcl : cl ln = rn := by rw [r2]; exact cl_nI (by omega)
        have n1 : ¬ ln = (-1) := by rw [r2]; exact nI_ne_m1 h1
        rw [hcl]
        simp only [if_neg n1, if_true]
        by_cases c4 : nI rn ≤ x
        · have c5 : ln ≤ x := by rw [r2]; exact c4
          simp only [if_pos c4, if_pos c5, Bool.false_eq_true, if_false]; exact ⟨h0, trivial⟩
        · have c5 : ¬ ln ≤ x := by rw [r2]; exact c4
          simp only [if_neg c4, if_neg c5, if_true]
          by_cases c6 : y < nI rn
          · have c7 : ¬ ln ≤ y := by rw [r2]; exact Int32.not_le.mpr c6
            simp only [if_pos c6, if_neg c7, if_true]
            have hx := cl_ltn c1 c4 (by omega)
            have hy := cl_ltp c2 c6 (by omega)
            by_cases c8 : cl x = cl y
            · simp only [if_pos c8, ite_self]; exact ⟨h0, trivial⟩
            · simp only [if_neg c8]
              by_cases c9 : cl x < fzM
              · simp only [if_pos c9]; exact ⟨h0, trivial⟩
              · simp only [if_neg c9]
                by_cases c10 : cl y < fzM
                · have c11 : ¬ fzM ≤ cl y := by omega
                  simp only [if_pos c10, if_neg c11]; exact ⟨h0, trivial⟩
                · have c11 : fzM ≤ cl y := by omega
                  simp only [if_neg c10, if_pos c11]
                  obtain ⟨w1, w2⟩ := ce_swl (tkv := tkvM) (opv := opvM) (shv := shv) (wyv := wyvM) (bdv := bdvM) (rl := rn) (i := cl x) (j := cl y) (rov := rov) (ce_cost (tkv := tkvM) (opv := opvM) (shv := shv) (wyv := wyvM) (bdv := bdvM) (rov := rov) (n := rn))
                  have hfe : ∀ j, j < rn → f3_fetch_rov rn rdv rm j = rdv j := fun j hj => by rw [q3_fetch, if_pos hj]
                  have hq := qr_ext hfe r4
                  obtain ⟨b1, b2⟩ := ce_better_s (tkv := tkvM) (opv := opvM) (wyv := wyvM) (bdv := bdvM) hs (rs := rn) (r := rov) (r2 := f3_fetch_rov rn rdv rm) (fun k hk => by rw [hfe k hk]; exact r5 k hk) (fun k hk => (hq.1 k hk).1) hx hy
                  have hbq := qr_better (tkv := tkvM) (opv := opvM) (shv := shvM) (wyv := wyvM) (bdv := bdvM) hq hx hy
                  rw [w1, w2, b1]
                  by_cases c12 : f3_better tkvM opvM shvM wyvM bdvM rn (f3_fetch_rov rn rdv rm) (cl x) (cl y) = true
                  · simp only [if_pos c12]
                    refine ⟨?_, trivial⟩
                    have := rl_mk h0 (dl' := dl) (RC := f3_better_rov tkvM opvM shv wyvM bdvM rn rov (cl x) (cl y)) (RM := f3_better_rov tkvM opvM shvM wyvM bdvM rn (f3_fetch_rov rn rdv rm) (cl x) (cl y)) (RDV := f3_keep_rdv rdv rn (f3_better_rov tkvM opvM shvM wyvM bdvM rn (f3_fetch_rov rn rdv rm) (cl x) (cl y))) b2 hbq (fun i hi => by rw [q3_better_lo (by omega) (by omega), hfe i (by omega), ← r5 i (by omega)]; exact h4 i hi) (fun j hj => by rw [q3_keep, if_pos hj]) hdc
                    rw [← r2] at this
                    exact this
                  · simp only [if_neg c12]
                    have e3 : f3_better_rov tkvM opvM shv wyvM bdvM rn rov (cl x) (cl y) = rov := by
                      rw [q3_better_r, b1, if_neg c12]
                    rw [e3]
                    exact ⟨h0, trivial⟩
          · have c7 : ln ≤ y := by rw [r2]; exact Int32.not_lt.mp c6
            simp only [if_neg c6, if_pos c7, Bool.false_eq_true, if_false]; exact ⟨h0, trivial⟩
theorem rl_exchange {rm : Nat → Nat} (x y : Int32) (h : Rel ln fz mo sn bw tkv opv shv ldv wyv bdv dl rov snM tkvM opvM shvM ldvM lim wyvM bdvM isr rn rdv fzM icv) : Rel ln fz mo sn bw tkv opv shv ldv wyv bdv dl (f2_exchange_rov ln fz tkv opv shv wyv bdv rov x y (cl ln)) snM tkvM opvM shvM ldvM lim wyvM bdvM (f3_exchange_isr tkvM opvM shvM wyvM bdvM isr rn rdv fzM rm x y) (f3_exchange_rn tkvM opvM shvM wyvM bdvM isr rn rdv fzM rm x y) (f3_exchange_rdv tkvM opvM shvM wyvM bdvM isr rn rdv fzM rm x y) fzM icv := (rl_exchange' x y h).1
theorem re_exchange {rm : Nat → Nat} (x y : Int32) (h : Rel ln fz mo sn bw tkv opv shv ldv wyv bdv dl rov snM tkvM opvM shvM ldvM lim wyvM bdvM isr rn rdv fzM icv) : f2_exchange ln fz tkv opv shv wyv bdv rov x y (cl ln) = f3_exchange tkvM opvM shvM wyvM bdvM isr rn rdv fzM rm x y := (rl_exchange' x y h).2
end RS3

