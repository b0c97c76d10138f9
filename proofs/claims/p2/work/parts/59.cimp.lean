section CIM
variable {tkv opv shv wyv : Nat → Int64} {bdv : Nat → Bool}
theorem ce_swl {rl i j : Nat} {rov : Nat → Nat} {cs : Int64} (hc : cs = f3_measure tkv opv shv wyv bdv rl rov) : f2_swapIfLess tkv opv shv wyv bdv rov i j cs rl = f3_better tkv opv shv wyv bdv rl rov i j ∧ f2_swapIfLess_rov tkv opv shv wyv bdv rov i j cs rl = f3_better_rov tkv opv shv wyv bdv rl rov i j := by
  have e1 : f2_swapIfLess tkv opv shv wyv bdv rov i j cs rl = f3_better tkv opv shv wyv bdv rl rov i j := by
    unfold f2_swapIfLess f3_better
    rw [ce_cost, q2_swap, hc]
  refine ⟨e1, ?_⟩
  rw [q3_better_r, ← e1]
  unfold f2_swapIfLess_rov f2_swapIfLess
  rw [q2_swap, q2_swap, q3_turn2]
  by_cases c : cs ≤ f1_cost tkv opv shv wyv bdv (f3_turn_rov rov i j) rl
  · simp [c]
  · simp [c]
theorem ce_impr_lp {fz rl : Nat} : ∀ (n : Nat) (cs : Int64) (i j : Nat) (us lf : Int64) (rov : Nat → Nat), cs = f3_measure tkv opv shv wyv bdv rl rov → i < j → (i + 1 < rl → j < rl) → (f2_improve_lp fz tkv opv shv wyv bdv rl n cs i j us rov).2.2.2.2 = (f3_improve_lp tkv opv shv wyv bdv fz rl n lf i j rov).2.2.2 := by
  intro n
  induction n with
  | zero => intro cs i j us lf rov _ _ _; rfl
  | succ n ih =>
    intro cs i j us lf rov hc h1 h2
    unfold f2_improve_lp f3_improve_lp
    by_cases c1 : rl ≤ j
    · rw [if_pos c1, if_pos (show rl ≤ i + 1 by omega)]
    · rw [if_neg c1, if_neg (show ¬ rl ≤ i + 1 by omega)]
      obtain ⟨e1, e2⟩ := ce_swl (i := i) (j := j) hc
      rw [e1, e2]
      by_cases c2 : f3_better tkv opv shv wyv bdv rl rov i j = true
      · simp only [if_pos c2]
        exact ih _ _ _ _ _ _ ce_cost (by omega) (by omega)
      · simp only [if_neg c2]
        have hr : f3_better_rov tkv opv shv wyv bdv rl rov i j = rov := by rw [q3_better_r, if_neg c2]
        rw [hr]
        by_cases c3 : rl ≤ j + 1
        · have c4 : j + 1 = rl := by omega
          simp only [if_pos c3, if_pos c4]
          exact ih _ _ _ _ _ _ hc (by omega) (by omega)
        · have c4 : ¬ j + 1 = rl := by omega
          simp only [if_neg c3, if_neg c4]
          exact ih _ _ _ _ _ _ hc (by omega) (by omega)
/-- exchanging: the same row -/
theorem ce_impr {fz rl : Nat} {rov : Nat → Nat} {stp : Int64} : f2_improve_rov fz tkv opv shv wyv bdv rov stp rl = f3_improve_rov tkv opv shv wyv bdv fz rl rov stp := by
  unfold f2_improve_rov f3_improve_rov
  exact ce_impr_lp _ _ _ _ _ _ _ ce_cost (by omega) (by omega)
theorem ce_s3_c {fz : Nat} {fev : Nat → Nat} : ∀ (n k rs : Nat) (r r2 : Nat → Nat), rs + n ≤ 20 → fz ≤ rs → (∀ j, j < rs → r j = r2 j) → (f3_solve_s3 tkv opv shv wyv bdv fz fev n k rs r).2.1 = rs + n ∧ (f3_solve_s3 tkv opv shv wyv bdv fz fev n k rs r2).2.1 = rs + n ∧ ∀ j, j < rs + n → (f3_solve_s3 tkv opv shv wyv bdv fz fev n k rs r).2.2 j = (f3_solve_s3 tkv opv shv wyv bdv fz fev n k rs r2).2.2 j := by
  intro n
  induction n with
  | zero => intro k rs r r2 h1 h2 h3; exact ⟨rfl, rfl, h3⟩
  | succ n ih =>
    intro k rs r r2 h1 h2 h3
    unfold f3_solve_s3
    have e : rs + (n + 1) = rs + 1 + n := by omega
    rw [e]
    exact ih (k + 1) (rs + 1) _ _ (by omega) (by omega) (ce_ins_r (by omega) h2 h3).2
/-- inserting all that are free: the same row -/
theorem ce_ifs_lp {fz sn : Nat} {r0 : Nat → Nat} (hsn : sn ≤ 20) : ∀ (n k fr : Nat) (fev rov r : Nat → Nat), k + n = sn + 1 → (f3_solve_s1 fz r0 n k fr fev).2.1 + fz = sn → (∀ i, i < fz → rov i = r0 i) → (∀ j, j < fz + fr → rov j = r j) →
    ∀ j, j < sn → (f2_insertFreeStops_lp fz tkv opv shv wyv bdv n (fz + fr) k rov).2.2 j = (f3_solve_s3 tkv opv shv wyv bdv fz (f3_solve_s1 fz r0 n k fr fev).2.2 ((f3_solve_s1 fz r0 n k fr fev).2.1 - fr) fr (fz + fr) r).2.2 j := by
  intro n
  induction n with
  | zero =>
    intro k fr fev rov r h1 h2 h3 h4 j hj
    have h5 : fr + fz = sn := h2
    have e : (f3_solve_s1 fz r0 0 k fr fev).2.1 - fr = 0 := by show fr - fr = 0; omega
    rw [e]
    exact h4 j (by omega)
  | succ n ih =>
    intro k fr fev rov r h1 h2 h3 h4
    have hh := q2_holds_c (x := k) h3
    unfold f2_insertFreeStops_lp
    rw [hh]
    by_cases c : f3_isFrozen fz r0 k = true
    · have e : f3_solve_s1 fz r0 (n + 1) k fr fev = f3_solve_s1 fz r0 n (k + 1) fr fev := by
        conv => lhs; unfold f3_solve_s1
        simp only [if_pos c]
      rw [e] at h2 ⊢
      simp only [if_pos c]
      exact ih (k + 1) fr fev rov r (by omega) h2 h3 h4
    · have e : f3_solve_s1 fz r0 (n + 1) k fr fev = f3_solve_s1 fz r0 n (k + 1) (fr + 1) (va_up fev fr k) := by
        conv => lhs; unfold f3_solve_s1
        simp only [if_neg c]
      rw [e] at h2 ⊢
      simp only [if_neg c]
      have hm := (q3_s1_mono (z := fz) (rov := r0) n (k + 1) (fr + 1) (va_up fev fr k)).1
      have hk : (f3_solve_s1 fz r0 n (k + 1) (fr + 1) (va_up fev fr k)).2.2 fr = k := by
        rw [q3_s1_keep _ _ _ _ fr (by omega), va_up_self]
      have e2 : (f3_solve_s1 fz r0 n (k + 1) (fr + 1) (va_up fev fr k)).2.1 - fr = ((f3_solve_s1 fz r0 n (k + 1) (fr + 1) (va_up fev fr k)).2.1 - (fr + 1)) + 1 := by omega
      rw [e2]
      obtain ⟨_, _, _, a4⟩ := ce_insert (tkv := tkv) (opv := opv) (shv := shv) (wyv := wyv) (bdv := bdv) (co := fz + fr) (x := k) (fz := fz) (r := rov) (by omega) (by omega)
      have a5 := (ce_ins_r (tkv := tkv) (opv := opv) (shv := shv) (wyv := wyv) (bdv := bdv) (co := fz + fr) (x := k) (fz := fz) (by omega) (by omega) h4).2
      have h6 := ih (k + 1) (fr + 1) (va_up fev fr k) (f2_insert_rov fz tkv opv shv wyv bdv rov k (fz + fr)) (f3_insert_rov tkv opv shv wyv bdv fz (fz + fr) r k) (by omega) h2 (fun i hi => ?_) (fun j hj => by rw [a4 j (by omega)]; exact a5 j (by omega))
      · intro j hj
        have h7 := h6 j hj
        rw [show fz + (fr + 1) = fz + fr + 1 by omega] at h7
        rw [h7]
        show _ = (f3_solve_s3 tkv opv shv wyv bdv fz _ _ (fr + 1) (fz + fr + 1) (f3_insert_rov tkv opv shv wyv bdv fz (fz + fr) r ((f3_solve_s1 fz r0 n (k + 1) (fr + 1) (va_up fev fr k)).2.2 fr))).2.2 j
        rw [hk]
      · rw [a4 i (by omega)]
        obtain ⟨r1, pl, p1, p2, e1, _, e3⟩ := q3_insert (tkv := tkv) (opv := opv) (shv := shv) (wyv := wyv) (bdv := bdv) (x := k) (rs := fz + fr) (fz := fz) (by omega) (by omega) rov
        rw [e3, q3_putIn p2, if_neg (by omega), if_neg (by omega), e1 i (by omega)]
        exact h3 i hi
theorem ce_ifs {fz sn : Nat} {rov r : Nat → Nat} {fev : Nat → Nat} (hsn : sn ≤ 20) (hri : q_row fz sn rov) (hr : ∀ j, j < fz → r j = rov j) : ∀ j, j < sn → f2_insertFreeStops_rov fz sn tkv opv shv wyv bdv rov j = (f3_solve_s3 tkv opv shv wyv bdv fz (f3_solve_s1 fz rov sn 1 0 fev).2.2 (f3_solve_s1 fz rov sn 1 0 fev).2.1 0 fz r).2.2 j := by
  have h := ce_ifs_lp (tkv := tkv) (opv := opv) (shv := shv) (wyv := wyv) (bdv := bdv) (r0 := rov) hsn sn 1 0 fev rov r (by omega) (q3_free (fev := fev) hri).1 (fun _ _ => rfl) (fun j hj => (hr j (by omega)).symm)
  exact h
/-- so the row is one without doubles -/
theorem qr_ifs {fz sn : Nat} {rov : Nat → Nat} (hsn : sn ≤ 20) (hri : q_row fz sn rov) : q_row sn sn (f2_insertFreeStops_rov fz sn tkv opv shv wyv bdv rov) ∧ ∀ i, i < fz → f2_insertFreeStops_rov fz sn tkv opv shv wyv bdv rov i = rov i := by
  obtain ⟨a, b, c⟩ := q3_ins_row (tkv := tkv) (opv := opv) (shv := shv) (wyv := wyv) (bdv := bdv) (rov := rov) (fev0 := fun _ => 0) hsn hri
  have hf := (q3_free (fev := fun _ => 0) hri).1
  have h := ce_ifs (tkv := tkv) (opv := opv) (shv := shv) (wyv := wyv) (bdv := bdv) (fev := fun _ => 0) (r := (f3_solve_s2 rov fz 0 rov).2) hsn hri (fun j hj => by rw [q3_s2, if_pos (by omega)])
  exact ⟨qr_ext h b, fun i hi => by rw [h i (by omega)]; exact c i hi⟩
end CIM

