section RS4
variable {ln : Int32} {fz : Nat} {mo : Int32} {sn : Nat} {bw : Int32} {tkv opv shv : Nat → Int64} {ldv : Nat → Int32} {wyv : Nat → Int64} {bdv : Nat → Bool} {dl : Nat} {rov : Nat → Nat} {snM : Nat} {tkvM opvM shvM : Nat → Int64} {ldvM : Nat → Int32} {lim : Int32} {wyvM : Nat → Int64} {bdvM : Nat → Bool} {isr : Bool} {rn : Nat} {rdv : Nat → Nat} {fzM : Nat} {icv : Nat → Nat}
theorem q3_late_neg {y : Int32} (hy : y < 0) : ∀ (n : Nat) (ck : Int64) (he u k : Nat), u + n ≤ 1000 → f3_late_lp tkv opv shv wyv rdv y n ck he u k = nI 0 := by
  intro n
  induction n with
  | zero => intro ck he u k _; rfl
  | succ n ih =>
    intro ck he u k hu
    unfold f3_late_lp
    have hn : ¬ nI u = y := fun z => by
      have := nI_pos (n := u) (by omega)
      rw [z] at this; exact this hy
    split <;> first | exact ih _ _ _ _ (by omega) | (rw [if_neg hn]; exact ih _ _ _ _ (by omega))
theorem ce_late_lp {shm : Nat → Int64} {y : Int32} {N : Nat} {r r2 : Nat → Nat} (hs : ∀ i, 1 ≤ i → shv i = shm i) (hr : ∀ j, j < N → r j = r2 j) (h1 : ∀ j, j < N → 1 ≤ r2 j) : ∀ (n u : Nat) (ck : Int64) (he k : Nat), k + n = N → f1_lateStop_lp tkv opv shv wyv r y n u ck he k = f3_late_lp tkv opv shm wyv r2 y n ck he u k := by
  intro n
  induction n with
  | zero => intro u ck he k _; rfl
  | succ n ih =>
    intro u ck he k hk
    unfold f1_lateStop_lp f3_late_lp
    rw [hr k (by omega), hs _ (h1 k (by omega)), Nat.mul_comm he 21, ce_done]
    split
    · exact ih _ _ _ _ (by omega)
    · split
      · rfl
      · exact ih _ _ _ _ (by omega)
theorem re_late (y : Int32) (h : Rel ln fz mo sn bw tkv opv shv ldv wyv bdv dl rov snM tkvM opvM shvM ldvM lim wyvM bdvM isr rn rdv fzM icv) : f2_late ln tkv opv shv wyv rov y (cl ln) = f3_late tkvM opvM shvM wyvM isr rn rdv y := by
  obtain ⟨⟨rfl, rfl, rfl, rfl, rfl, rfl, rfl, rfl⟩, ⟨h1, h2, h3, h4⟩, ⟨d1, d2, d3, d4, d5⟩, hr, he, hdc⟩ := h
  unfold f2_late f3_late
  rcases hr with ⟨r1, r2⟩ | ⟨r1, r2, r3, r4, r5⟩
  · subst r1; subst r2
    simp only [Bool.false_eq_true, if_false, if_true, ite_self]
  · subst r1; subst r3
    rw [if_pos rfl]
    have hcl : cl ln = rn := by rw [r2]; exact cl_nI (by omega)
    have n1 : ¬ ln = (-1) := by rw [r2]; exact nI_ne_m1 h1
    rw [hcl, if_neg n1]
    by_cases c : y < 0
    · rw [if_pos c, q3_late_neg c _ _ _ _ _ (by omega)]
    · rw [if_neg c]
      unfold f1_lateStop
      exact ce_late_lp d1.2.2.2.1 r5 (fun j hj => (r4.1 j hj).1) rn 0 0 0 0 (by omega)
theorem ce_lw {b : Nat} (hw : ∀ i, bnd 100000 (wyv i)) : ∀ (n : Nat) (x y : Int64) (a : Nat), xrel 100000 x y → xrel 100000 (f1_leastWayTo_lp wyv bdv b n x a).1 (f3_bound_lpa wyv bdv b n y a).1 := by
  intro n
  induction n with
  | zero => intro x y a h; exact h
  | succ n ih =>
    intro x y a h
    unfold f1_leastWayTo_lp f3_bound_lpa
    rw [Nat.mul_comm a 21]
    refine ih _ _ _ ?_
    by_cases c1 : a = b
    · rw [if_pos c1, if_pos c1]; exact h
    · rw [if_neg c1, if_neg c1]
      by_cases c2 : bdv (21 * a + b) = true
      · rw [if_pos c2, if_pos c2]; exact h
      · rw [if_neg c2, if_neg c2]
        rcases h with ⟨rfl, rfl⟩ | ⟨rfl, hb⟩
        · have k1 : wyv (21 * a + b) < 1000000000000000 := by rw [i64_NC]; exact bnd_lt (hw _) (by decide) (by decide)
          have k2 : wyv (21 * a + b) < 4000000000000000000 := by rw [i64_NM]; exact bnd_lt (hw _) (by decide) (by decide)
          rw [if_pos k1, if_neg (Int64.not_le.mpr k2)]
          exact Or.inr ⟨rfl, hw _⟩
        · by_cases c3 : wyv (21 * a + b) < x
          · rw [if_pos c3, if_neg (Int64.not_le.mpr c3)]; exact Or.inr ⟨rfl, hw _⟩
          · rw [if_neg c3, if_pos (Int64.not_lt.mp c3)]; exact Or.inr ⟨rfl, hb⟩
theorem ce_lt_lp (hw : ∀ i, bnd 100000 (wyv i)) : ∀ (n : Nat) (su : Int64) (b : Nat), f1_leastTime_lp sn tkv wyv bdv n su b = f3_bound_lpb sn tkv wyv bdv n su b := by
  intro n
  induction n with
  | zero => intro su b; rfl
  | succ n ih =>
    intro su b
    unfold f1_leastTime_lp f3_bound_lpb f1_leastWayTo
    have hx := ce_lw (bdv := bdv) (b := b) hw (sn + 1) 1000000000000000 4000000000000000000 0 (Or.inl ⟨rfl, rfl⟩)
    obtain ⟨a1, a2⟩ := xr_ne hx (by decide)
    by_cases c : (f1_leastWayTo_lp wyv bdv b (sn + 1) 1000000000000000 0).1 = 1000000000000000
    · rw [if_pos c, if_pos (a1.mp c)]
    · rw [if_neg c, if_neg (fun z => c (a1.mpr z)), (a2 c).1, ih, Int64.add_assoc, Int64.add_comm (tkv b)]
theorem re_bound (h : Rel ln fz mo sn bw tkv opv shv ldv wyv bdv dl rov snM tkvM opvM shvM ldvM lim wyvM bdvM isr rn rdv fzM icv) : f2_bound sn tkv wyv bdv = f3_bound snM tkvM wyvM bdvM := by
  obtain ⟨⟨rfl, rfl, rfl, rfl, rfl, rfl, rfl, rfl⟩, -, ⟨d1, -⟩, -⟩ := h
  unfold f2_bound f1_leastTime f3_bound
  split
  · rfl
  · exact ce_lt_lp d1.2.2.2.2.1 _ _ _
theorem re_at1' (x : Int32) (h : Rel ln fz mo sn bw tkv opv shv ldv wyv bdv dl rov snM tkvM opvM shvM ldvM lim wyvM bdvM isr rn rdv fzM icv) : fL_at ln x = f3_at_thr isr rn x := by
  obtain ⟨⟨rfl, rfl, rfl, rfl, rfl, rfl, rfl, rfl⟩, ⟨h1, h2, h3, h4⟩, -, hr, -⟩ := h
  unfold fL_at f3_at_thr
  rcases hr with ⟨r1, r2⟩ | ⟨r1, r2, r3, r4, r5⟩
  · subst r1; subst r2
    rw [if_neg (show ¬ (false = true) by decide), if_pos]
    · rfl
    · by_cases c : x < 0
      · exact Or.inl c
      · refine Or.inr (fun z => c (Int32.lt_trans z (by decide)))
  · subst r1; subst r3
    rw [if_pos rfl, r2]
    by_cases c : x < 0
    · rw [if_pos c, if_pos (Or.inl c)]; rfl
    · rw [if_neg c]
      by_cases c2 : nI rn ≤ x
      · rw [if_pos c2, if_pos (Or.inr (Int32.not_lt.mpr c2))]; rfl
      · rw [if_neg c2, if_neg]
        · rfl
        · rintro (z | z)
          · exact c z
          · exact z (Int32.not_le.mp c2)
theorem re_at2' {lov : Nat → Int64} (x : Int32) (h : Rel ln fz mo sn bw tkv opv shv ldv wyv bdv dl rov snM tkvM opvM shvM ldvM lim wyvM bdvM isr rn rdv fzM icv) (hz : fL_at ln x = 0) : fL_at_lov ln rov lov x 0 = (f3_at isr rn rdv x).toInt64 := by
  have hF := rel_facts h
  obtain ⟨⟨rfl, rfl, rfl, rfl, rfl, rfl, rfl, rfl⟩, ⟨h1, h2, h3, h4⟩, -, hr, -⟩ := h
  have hc : ¬ (x < 0 ∨ ¬ x < ln) := fun z => by unfold fL_at at hz; rw [if_pos z] at hz; exact absurd hz (by decide)
  unfold fL_at_lov f3_at
  rw [if_neg hc, va_up_self]
  have c1 : ¬ x < 0 := fun z => hc (Or.inl z)
  have c2 : x < ln := Classical.byContradiction fun z => hc (Or.inr z)
  rcases hr with ⟨r1, r2⟩ | ⟨r1, r2, r3, r4, r5⟩
  · subst r2
    exact absurd (Int32.lt_trans c2 (by decide)) c1
  · subst r1; subst r3
    rw [r2] at c2
    rw [if_pos rfl, if_neg c1, if_neg (Int32.not_le.mpr c2), r5 _ (cl_ltp c1 c2 (by omega))]
end RS4

