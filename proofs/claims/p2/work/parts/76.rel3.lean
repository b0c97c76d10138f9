section RS2
variable {ln : Int32} {fz : Nat} {mo : Int32} {sn : Nat} {bw : Int32} {tkv opv shv : Nat → Int64} {ldv : Nat → Int32} {wyv : Nat → Int64} {bdv : Nat → Bool} {dl : Nat} {rov : Nat → Nat} {snM : Nat} {tkvM opvM shvM : Nat → Int64} {ldvM : Nat → Int32} {lim : Int32} {wyvM : Nat → Int64} {bdvM : Nat → Bool} {isr : Bool} {rn : Nat} {rdv : Nat → Nat} {fzM : Nat} {icv : Nat → Nat}
theorem rl_mk {dl' : Nat} {RC RM RDV : Nat → Nat} (h : Rel ln fz mo sn bw tkv opv shv ldv wyv bdv dl rov snM tkvM opvM shvM ldvM lim wyvM bdvM isr rn rdv fzM icv) (K1 : ∀ j, j < sn → RC j = RM j) (K2 : q_row sn sn RM) (K3 : ∀ i, i < fz → RM i = icv i) (K4 : ∀ j, j < sn → RDV j = RM j) (K5 : ∃ dc, dc ≤ 11 ∧ dl' = 2 ^ dc * dc) : Rel (nI sn) fz mo sn bw tkv opv shv ldv wyv bdv dl' RC snM tkvM opvM shvM ldvM lim wyvM bdvM true sn RDV fzM icv := by
  obtain ⟨⟨rfl, rfl, rfl, rfl, rfl, rfl, rfl, rfl⟩, ⟨h1, h2, h3, h4⟩, hd, hr, he, -⟩ := h
  have q := qr_ext K4 K2
  refine ⟨⟨rfl, rfl, rfl, rfl, rfl, rfl, rfl, rfl⟩, ⟨h1, h2, h3, fun i hi => ?_⟩, hd, Or.inr ⟨rfl, rfl, rfl, q, fun j hj => ?_⟩, ⟨h1, fun k hk => ?_⟩, K5⟩
  · rw [K1 i (by omega)]; exact K3 i hi
  · rw [K1 j hj, K4 j hj]
  · have := (q.1 k hk).2; omega
theorem dc_grow {a b : Nat} (h : 2 ^ a * a < 2 ^ b * b) : 2 * (2 ^ a * a) ≤ 2 ^ b * b := by
  have hab : a < b := by
    rcases Nat.lt_or_ge a b with q | q
    · exact q
    · exact absurd h (Nat.not_lt.mpr (Nat.mul_le_mul (Nat.pow_le_pow_right (by decide) q) q))
  have h1 : 2 ^ (a + 1) ≤ 2 ^ b := Nat.pow_le_pow_right (by decide) hab
  have h2 : 2 ^ (a + 1) * a ≤ 2 ^ b * b := Nat.mul_le_mul h1 (by omega)
  have e : 2 ^ (a + 1) * a = 2 * (2 ^ a * a) := by rw [Nat.pow_succ, Nat.mul_comm (2 ^ a) 2, Nat.mul_assoc]
  omega
theorem ct_le {f : Nat → Nat} (hri : q_row fz sn rov) (hs : sn - fz ≤ 11) : f0_collectFree_ct sn f rov fz ≤ 11 := by
  rw [(q0_free hri hs).1]
  have := (q3_free (fev := f) hri).1
  omega
/-- what the search makes, and how large its row is then -/
theorem fill_mc {f : Nat → Nat} {dnv : Nat → Int64} (hri : q_row fz sn rov) :
    (if (sn - fz) ≤ 11 then (if (f0_followFrozen_stc tkv opv shv wyv bdv rov fz) = 1000000000000000 then 0 else (if dl < 2 ^ (f0_collectFree_ct sn f rov fz) * (f0_collectFree_ct sn f rov fz) then 1 else 0)) else 0) ≤ 1 ∧ ((if (sn - fz) ≤ 11 then (if (f0_followFrozen_stc tkv opv shv wyv bdv rov fz) = 1000000000000000 then 0 else (if dl < 2 ^ (f0_collectFree_ct sn f rov fz) * (f0_collectFree_ct sn f rov fz) then 2 ^ (f0_collectFree_ct sn f rov fz) * (f0_collectFree_ct sn f rov fz) else 0)) else 0) = 0 ∧ f0_fill_dl sn tkv opv shv wyv bdv f dl dnv rov fz = dl ∨ dl < (if (sn - fz) ≤ 11 then (if (f0_followFrozen_stc tkv opv shv wyv bdv rov fz) = 1000000000000000 then 0 else (if dl < 2 ^ (f0_collectFree_ct sn f rov fz) * (f0_collectFree_ct sn f rov fz) then 2 ^ (f0_collectFree_ct sn f rov fz) * (f0_collectFree_ct sn f rov fz) else 0)) else 0) ∧ f0_fill_dl sn tkv opv shv wyv bdv f dl dnv rov fz = (if (sn - fz) ≤ 11 then (if (f0_followFrozen_stc tkv opv shv wyv bdv rov fz) = 1000000000000000 then 0 else (if dl < 2 ^ (f0_collectFree_ct sn f rov fz) * (f0_collectFree_ct sn f rov fz) then 2 ^ (f0_collectFree_ct sn f rov fz) * (f0_collectFree_ct sn f rov fz) else 0)) else 0) ∧ ∃ c, c ≤ 11 ∧ (if (sn - fz) ≤ 11 then (if (f0_followFrozen_stc tkv opv shv wyv bdv rov fz) = 1000000000000000 then 0 else (if dl < 2 ^ (f0_collectFree_ct sn f rov fz) * (f0_collectFree_ct sn f rov fz) then 2 ^ (f0_collectFree_ct sn f rov fz) * (f0_collectFree_ct sn f rov fz) else 0)) else 0) = 2 ^ c * c) := by
  unfold f0_fill_dl f0_reckonSets_dl
  by_cases c1 : sn - fz ≤ 11
  · simp only [if_pos c1]
    by_cases c2 : f0_followFrozen_stc tkv opv shv wyv bdv rov fz = 1000000000000000
    · simp only [if_pos c2]; exact ⟨by omega, Or.inl ⟨trivial, trivial⟩⟩
    · simp only [if_neg c2, ite_self]
      by_cases c3 : dl < 2 ^ (f0_collectFree_ct sn f rov fz) * (f0_collectFree_ct sn f rov fz)
      · simp only [if_pos c3, if_neg (Nat.not_le.mpr c3)]
        exact ⟨Nat.le_refl _, Or.inr ⟨c3, trivial, _, ct_le hri c1, rfl⟩⟩
      · simp only [if_neg c3, if_pos (Nat.not_lt.mp c3)]; exact ⟨by omega, Or.inl ⟨trivial, trivial⟩⟩
  · simp only [if_neg c1]; exact ⟨by omega, Or.inl ⟨trivial, trivial⟩⟩
theorem solve_mc {f : Nat → Nat} {dnv : Nat → Int64} {stp : Int64} (hri : q_row fz sn rov) :
    (if stp < 0 then 0 else (if stp ≤ 100000 then (if mo = (((-1))) then (if (sn - fz) ≤ 11 then (if (f0_followFrozen_stc tkv opv shv wyv bdv rov fz) = 1000000000000000 then 0 else (if dl < 2 ^ (f0_collectFree_ct sn f rov fz) * (f0_collectFree_ct sn f rov fz) then 1 else 0)) else 0) else (if ((f1_loads sn ldv)) ≤ mo then (if (sn - fz) ≤ 11 then (if (f0_followFrozen_stc tkv opv shv wyv bdv rov fz) = 1000000000000000 then 0 else (if dl < 2 ^ (f0_collectFree_ct sn f rov fz) * (f0_collectFree_ct sn f rov fz) then 1 else 0)) else 0) else 0)) else 0)) ≤ 1 ∧ ((if stp < 0 then 0 else (if stp ≤ 100000 then (if mo = (((-1))) then (if (sn - fz) ≤ 11 then (if (f0_followFrozen_stc tkv opv shv wyv bdv rov fz) = 1000000000000000 then 0 else (if dl < 2 ^ (f0_collectFree_ct sn f rov fz) * (f0_collectFree_ct sn f rov fz) then 2 ^ (f0_collectFree_ct sn f rov fz) * (f0_collectFree_ct sn f rov fz) else 0)) else 0) else (if ((f1_loads sn ldv)) ≤ mo then (if (sn - fz) ≤ 11 then (if (f0_followFrozen_stc tkv opv shv wyv bdv rov fz) = 1000000000000000 then 0 else (if dl < 2 ^ (f0_collectFree_ct sn f rov fz) * (f0_collectFree_ct sn f rov fz) then 2 ^ (f0_collectFree_ct sn f rov fz) * (f0_collectFree_ct sn f rov fz) else 0)) else 0) else 0)) else 0)) = 0 ∧ f2_solve_dl fz mo sn tkv opv shv ldv wyv bdv f dl dnv rov stp = dl ∨ dl < (if stp < 0 then 0 else (if stp ≤ 100000 then (if mo = (((-1))) then (if (sn - fz) ≤ 11 then (if (f0_followFrozen_stc tkv opv shv wyv bdv rov fz) = 1000000000000000 then 0 else (if dl < 2 ^ (f0_collectFree_ct sn f rov fz) * (f0_collectFree_ct sn f rov fz) then 2 ^ (f0_collectFree_ct sn f rov fz) * (f0_collectFree_ct sn f rov fz) else 0)) else 0) else (if ((f1_loads sn ldv)) ≤ mo then (if (sn - fz) ≤ 11 then (if (f0_followFrozen_stc tkv opv shv wyv bdv rov fz) = 1000000000000000 then 0 else (if dl < 2 ^ (f0_collectFree_ct sn f rov fz) * (f0_collectFree_ct sn f rov fz) then 2 ^ (f0_collectFree_ct sn f rov fz) * (f0_collectFree_ct sn f rov fz) else 0)) else 0) else 0)) else 0)) ∧ f2_solve_dl fz mo sn tkv opv shv ldv wyv bdv f dl dnv rov stp = (if stp < 0 then 0 else (if stp ≤ 100000 then (if mo = (((-1))) then (if (sn - fz) ≤ 11 then (if (f0_followFrozen_stc tkv opv shv wyv bdv rov fz) = 1000000000000000 then 0 else (if dl < 2 ^ (f0_collectFree_ct sn f rov fz) * (f0_collectFree_ct sn f rov fz) then 2 ^ (f0_collectFree_ct sn f rov fz) * (f0_collectFree_ct sn f rov fz) else 0)) else 0) else (if ((f1_loads sn ldv)) ≤ mo then (if (sn - fz) ≤ 11 then (if (f0_followFrozen_stc tkv opv shv wyv bdv rov fz) = 1000000000000000 then 0 else (if dl < 2 ^ (f0_collectFree_ct sn f rov fz) * (f0_collectFree_ct sn f rov fz) then 2 ^ (f0_collectFree_ct sn f rov fz) * (f0_collectFree_ct sn f rov fz) else 0)) else 0) else 0)) else 0)) ∧ ∃ c, c ≤ 11 ∧ (if stp < 0 then 0 else (if stp ≤ 100000 then (if mo = (((-1))) then (if (sn - fz) ≤ 11 then (if (f0_followFrozen_stc tkv opv shv wyv bdv rov fz) = 1000000000000000 then 0 else (if dl < 2 ^ (f0_collectFree_ct sn f rov fz) * (f0_collectFree_ct sn f rov fz) then 2 ^ (f0_collectFree_ct sn f rov fz) * (f0_collectFree_ct sn f rov fz) else 0)) else 0) else (if ((f1_loads sn ldv)) ≤ mo then (if (sn - fz) ≤ 11 then (if (f0_followFrozen_stc tkv opv shv wyv bdv rov fz) = 1000000000000000 then 0 else (if dl < 2 ^ (f0_collectFree_ct sn f rov fz) * (f0_collectFree_ct sn f rov fz) then 2 ^ (f0_collectFree_ct sn f rov fz) * (f0_collectFree_ct sn f rov fz) else 0)) else 0) else 0)) else 0)) = 2 ^ c * c) := by
  have hf := fill_mc (tkv := tkv) (opv := opv) (shv := shv) (wyv := wyv) (bdv := bdv) (dl := dl) (f := f) (dnv := dnv) hri
  unfold f2_solve_dl
  by_cases c1 : stp < 0
  · simp only [if_pos c1]; exact ⟨by omega, Or.inl ⟨trivial, trivial⟩⟩
  · simp only [if_neg c1]
    by_cases c2 : stp ≤ 100000
    · simp only [if_pos c2]
      by_cases c3 : mo = (-1)
      · simp only [if_pos c3, ite_self]; exact hf
      · simp only [if_neg c3]
        by_cases c4 : f1_loads sn ldv ≤ mo
        · simp only [if_pos c4, ite_self]; exact hf
        · simp only [if_neg c4]; exact ⟨by omega, Or.inl ⟨trivial, trivial⟩⟩
    · simp only [if_neg c2]; exact ⟨by omega, Or.inl ⟨trivial, trivial⟩⟩
theorem rl_mc {f : Nat → Nat} {stp : Int64} {cells slots n : Nat} (h : Rel ln fz mo sn bw tkv opv shv ldv wyv bdv dl rov snM tkvM opvM shvM ldvM lim wyvM bdvM isr rn rdv fzM icv) (hcb : cells + (n + 1) ≤ 1000) (hsb : slots + 6 * (n + 1) ≤ 40000 + 2 * dl) : cells + (if stp < 0 then 0 else (if stp ≤ 100000 then (if mo = (((-1))) then (if (sn - fz) ≤ 11 then (if (f0_followFrozen_stc tkv opv shv wyv bdv rov fz) = 1000000000000000 then 0 else (if dl < 2 ^ (f0_collectFree_ct sn f rov fz) * (f0_collectFree_ct sn f rov fz) then 1 else 0)) else 0) else (if ((f1_loads sn ldv)) ≤ mo then (if (sn - fz) ≤ 11 then (if (f0_followFrozen_stc tkv opv shv wyv bdv rov fz) = 1000000000000000 then 0 else (if dl < 2 ^ (f0_collectFree_ct sn f rov fz) * (f0_collectFree_ct sn f rov fz) then 1 else 0)) else 0) else 0)) else 0)) ≤ 601024 ∧ slots + (if stp < 0 then 0 else (if stp ≤ 100000 then (if mo = (((-1))) then (if (sn - fz) ≤ 11 then (if (f0_followFrozen_stc tkv opv shv wyv bdv rov fz) = 1000000000000000 then 0 else (if dl < 2 ^ (f0_collectFree_ct sn f rov fz) * (f0_collectFree_ct sn f rov fz) then 2 ^ (f0_collectFree_ct sn f rov fz) * (f0_collectFree_ct sn f rov fz) else 0)) else 0) else (if ((f1_loads sn ldv)) ≤ mo then (if (sn - fz) ≤ 11 then (if (f0_followFrozen_stc tkv opv shv wyv bdv rov fz) = 1000000000000000 then 0 else (if dl < 2 ^ (f0_collectFree_ct sn f rov fz) * (f0_collectFree_ct sn f rov fz) then 2 ^ (f0_collectFree_ct sn f rov fz) * (f0_collectFree_ct sn f rov fz) else 0)) else 0) else 0)) else 0)) ≤ 7293034 := by
  obtain ⟨F1, F2, F3, F4, F5, F6, F7, F8, F9, -⟩ := rel_facts h
  obtain ⟨a, b⟩ := solve_mc (tkv := tkv) (opv := opv) (shv := shv) (ldv := ldv) (mo := mo) (wyv := wyv) (bdv := bdv) (dl := dl) (f := f) (dnv := fun _ => 0) (stp := stp) F7
  refine ⟨by omega, ?_⟩
  rcases b with ⟨b1, _⟩ | ⟨_, _, c, c1, c2⟩
  · omega
  · have : 2 ^ c * c ≤ 22528 := Nat.le_trans (Nat.mul_le_mul (Nat.pow_le_pow_right (by decide) c1) c1) (by decide)
    omega
theorem rl_mc1 {f : Nat → Nat} {stp : Int64} {cells n : Nat} (h : Rel ln fz mo sn bw tkv opv shv ldv wyv bdv dl rov snM tkvM opvM shvM ldvM lim wyvM bdvM isr rn rdv fzM icv) (hcb : cells + (n + 1) ≤ 1000) : (cells + (if stp < 0 then 0 else (if stp ≤ 100000 then (if mo = (((-1))) then (if (sn - fz) ≤ 11 then (if (f0_followFrozen_stc tkv opv shv wyv bdv rov fz) = 1000000000000000 then 0 else (if dl < 2 ^ (f0_collectFree_ct sn f rov fz) * (f0_collectFree_ct sn f rov fz) then 1 else 0)) else 0) else (if ((f1_loads sn ldv)) ≤ mo then (if (sn - fz) ≤ 11 then (if (f0_followFrozen_stc tkv opv shv wyv bdv rov fz) = 1000000000000000 then 0 else (if dl < 2 ^ (f0_collectFree_ct sn f rov fz) * (f0_collectFree_ct sn f rov fz) then 1 else 0)) else 0) else 0)) else 0))) + n ≤ 1000 := by
  obtain ⟨F1, F2, F3, F4, F5, F6, F7, -⟩ := rel_facts h
  have a := (solve_mc (tkv := tkv) (opv := opv) (shv := shv) (ldv := ldv) (mo := mo) (wyv := wyv) (bdv := bdv) (dl := dl) (f := f) (dnv := fun _ => 0) (stp := stp) F7).1
  omega
theorem rl_ms {f : Nat → Nat} {dnv : Nat → Int64} {stp : Int64} {slots n : Nat} (h : Rel ln fz mo sn bw tkv opv shv ldv wyv bdv dl rov snM tkvM opvM shvM ldvM lim wyvM bdvM isr rn rdv fzM icv) (hsb : slots + 6 * (n + 1) ≤ 40000 + 2 * dl) : (slots + (if stp < 0 then 0 else (if stp ≤ 100000 then (if mo = (((-1))) then (if (sn - fz) ≤ 11 then (if (f0_followFrozen_stc tkv opv shv wyv bdv rov fz) = 1000000000000000 then 0 else (if dl < 2 ^ (f0_collectFree_ct sn f rov fz) * (f0_collectFree_ct sn f rov fz) then 2 ^ (f0_collectFree_ct sn f rov fz) * (f0_collectFree_ct sn f rov fz) else 0)) else 0) else (if ((f1_loads sn ldv)) ≤ mo then (if (sn - fz) ≤ 11 then (if (f0_followFrozen_stc tkv opv shv wyv bdv rov fz) = 1000000000000000 then 0 else (if dl < 2 ^ (f0_collectFree_ct sn f rov fz) * (f0_collectFree_ct sn f rov fz) then 2 ^ (f0_collectFree_ct sn f rov fz) * (f0_collectFree_ct sn f rov fz) else 0)) else 0) else 0)) else 0))) + 6 * n ≤ 40000 + 2 * f2_solve_dl fz mo sn tkv opv shv ldv wyv bdv f dl dnv rov stp := by
  obtain ⟨F1, F2, F3, F4, F5, F6, F7, -⟩ := rel_facts h
  obtain ⟨-, -, -, -, -, dc, k1, k2⟩ := h
  rcases (solve_mc (tkv := tkv) (opv := opv) (shv := shv) (ldv := ldv) (mo := mo) (wyv := wyv) (bdv := bdv) (dl := dl) (f := f) (dnv := dnv) (stp := stp) F7).2 with ⟨b1, b2⟩ | ⟨b0, b1, c, c1, c2⟩
  · rw [b1, b2]; omega
  · rw [b1]
    rw [c2] at b0 ⊢
    have := dc_grow (k2 ▸ b0)
    rw [← k2] at this
    omega
theorem rl_solve' {f g : Nat → Nat} {dnv eav : Nat → Int64} {rm : Nat → Nat} (stp : Int64) (h : Rel ln fz mo sn bw tkv opv shv ldv wyv bdv dl rov snM tkvM opvM shvM ldvM lim wyvM bdvM isr rn rdv fzM icv) : Rel (f2_solve_ln ln fz mo sn tkv opv shv ldv wyv bdv f dl dnv rov stp) fz mo sn bw tkv opv shv ldv wyv bdv (f2_solve_dl fz mo sn tkv opv shv ldv wyv bdv f dl dnv rov stp) (f2_solve_rov fz mo sn tkv opv shv ldv wyv bdv f dl dnv rov stp) snM tkvM opvM shvM ldvM lim wyvM bdvM (f3_solve_isr snM tkvM opvM shvM ldvM lim wyvM bdvM isr fzM icv g eav rm stp) (f3_solve_rn snM tkvM opvM shvM ldvM lim wyvM bdvM rn fzM icv g eav rm stp) (f3_solve_rdv snM tkvM opvM shvM ldvM lim wyvM bdvM rdv fzM icv g eav rm stp) fzM icv ∧
    f2_solve fz mo sn tkv opv shv ldv wyv bdv f dl dnv rov stp = f3_solve snM tkvM opvM shvM ldvM lim wyvM bdvM fzM icv g eav rm stp := by
  have h0 := h
  have hF := rel_facts h
  obtain ⟨⟨rfl, rfl, rfl, rfl, rfl, rfl, rfl, rfl⟩, ⟨h1, h2, h3, h4⟩, ⟨d1, d2, d3, d4, d5⟩, hr, he, hdc⟩ := h
  have hld := ce_loads h1 d5
  obtain ⟨K1, K2, K3⟩ := ce_solved (bdv := bdvM) (f := f) (g := g) (rm := rm) (eav := eav) (dnv := dnv) (dl := dl) (stp := stp) d1 d3 h1 h3 h4
  have hs : ∀ i, 1 ≤ i → shv i = shvM i := d1.2.2.2.1
  have K5 : ∃ dc, dc ≤ 11 ∧ f0_fill_dl snM tkvM opvM shv wyvM bdvM f dl dnv rov fzM = 2 ^ dc * dc := by
    rcases (fill_mc (tkv := tkvM) (opv := opvM) (shv := shv) (wyv := wyvM) (bdv := bdvM) (dl := dl) (f := f) (dnv := dnv) hF.2.2.2.2.2.2.1).2 with ⟨_, b2⟩ | ⟨_, b1, c, c1, c2⟩
    · rw [b2]; exact hdc
    · rw [b1]; exact ⟨c, c1, c2⟩
  have hcost : ∀ (RC RM : Nat → Nat), (∀ j, j < snM → RC j = RM j) → q_row snM snM RM → f1_cost tkvM opvM shv wyvM bdvM RC snM = f3_measure tkvM opvM shvM wyvM bdvM snM RM := fun RC RM k1 k2 => by
    rw [ce_cost]; exact ce_meas k1 (fun k hk => hs _ (k2.1 k hk).1)
  unfold f2_solve_ln f2_solve_dl f2_solve_rov f3_solve_isr f3_solve_rn f3_solve_rdv f2_solve f3_solve
  by_cases c1 : stp < 0
  · simp only [if_pos c1]; exact ⟨h0, trivial⟩
  · simp only [if_neg c1]
    by_cases c2 : stp ≤ 100000
    · simp only [if_pos c2]
      have main : ∀ {RC RM RDV : Nat → Nat}, (∀ j, j < snM → RC j = RM j) → q_row snM snM RM → (∀ i, i < fzM → RM i = icv i) → (∀ j, j < snM → RDV j = RM j) → Rel (nI snM) fzM lim snM bw tkvM opvM shv ldvM wyvM bdvM (f0_fill_dl snM tkvM opvM shv wyvM bdvM f dl dnv rov fzM) RC snM tkvM opvM shvM ldvM lim wyvM bdvM true snM RDV fzM icv := fun k1 k2 k3 k4 => rl_mk h0 k1 k2 k3 k4 K5
      have inner : Rel (if f0_fill snM tkvM opvM shv wyvM bdvM f dl dnv rov fzM = true then nI snM else nI snM) fzM lim snM bw tkvM opvM shv ldvM wyvM bdvM (if f0_fill snM tkvM opvM shv wyvM bdvM f dl dnv rov fzM = true then f0_fill_dl snM tkvM opvM shv wyvM bdvM f dl dnv rov fzM else f0_fill_dl snM tkvM opvM shv wyvM bdvM f dl dnv rov fzM) (if f0_fill snM tkvM opvM shv wyvM bdvM f dl dnv rov fzM = true then f0_fill_rov snM tkvM opvM shv wyvM bdvM f dl dnv rov fzM else f2_improve_rov fzM tkvM opvM shv wyvM bdvM (f2_insertFreeStops_rov fzM snM tkvM opvM shv wyvM bdvM rov) stp snM) snM tkvM opvM shvM ldvM lim wyvM bdvM
          (if 11 < (f3_solve_s1 fzM icv snM 1 0 g).2.1 then f3_keep_isr else if f3_findExact snM tkvM opvM shvM wyvM bdvM fzM icv (f3_solve_s1 fzM icv snM 1 0 g).2.1 (f3_solve_s1 fzM icv snM 1 0 g).2.2 eav rm = true then f3_keep_isr else f3_keep_isr)
          (if 11 < (f3_solve_s1 fzM icv snM 1 0 g).2.1 then f3_keep_rn snM else if f3_findExact snM tkvM opvM shvM wyvM bdvM fzM icv (f3_solve_s1 fzM icv snM 1 0 g).2.1 (f3_solve_s1 fzM icv snM 1 0 g).2.2 eav rm = true then f3_keep_rn snM else f3_keep_rn snM)
          (if 11 < (f3_solve_s1 fzM icv snM 1 0 g).2.1 then f3_keep_rdv rdv snM (f3_improve_rov tkvM opvM shvM wyvM bdvM fzM snM (f3_solve_s3 tkvM opvM shvM wyvM bdvM fzM (f3_solve_s1 fzM icv snM 1 0 g).2.2 (f3_solve_s1 fzM icv snM 1 0 g).2.1 0 fzM (f3_solve_s2 icv fzM 0 rm).2).2.2 stp) else if f3_findExact snM tkvM opvM shvM wyvM bdvM fzM icv (f3_solve_s1 fzM icv snM 1 0 g).2.1 (f3_solve_s1 fzM icv snM 1 0 g).2.2 eav rm = true then f3_keep_rdv rdv snM (f3_findExact_rov snM tkvM opvM shvM wyvM bdvM fzM icv (f3_solve_s1 fzM icv snM 1 0 g).2.1 (f3_solve_s1 fzM icv snM 1 0 g).2.2 eav rm) else f3_keep_rdv rdv snM (f3_improve_rov tkvM opvM shvM wyvM bdvM fzM snM (f3_solve_s3 tkvM opvM shvM wyvM bdvM fzM (f3_solve_s1 fzM icv snM 1 0 g).2.2 (f3_solve_s1 fzM icv snM 1 0 g).2.1 0 fzM (f3_solve_s2 icv fzM 0 (f3_findExact_rov snM tkvM opvM shvM wyvM bdvM fzM icv (f3_solve_s1 fzM icv snM 1 0 g).2.1 (f3_solve_s1 fzM icv snM 1 0 g).2.2 eav rm)).2).2.2 stp)) fzM icv ∧
          (if f0_fill snM tkvM opvM shv wyvM bdvM f dl dnv rov fzM = true then f1_home tkvM opvM shv wyvM bdvM (f0_fill_rov snM tkvM opvM shv wyvM bdvM f dl dnv rov fzM) snM else f1_home tkvM opvM shv wyvM bdvM (f2_improve_rov fzM tkvM opvM shv wyvM bdvM (f2_insertFreeStops_rov fzM snM tkvM opvM shv wyvM bdvM rov) stp snM) snM) =
          (if 11 < (f3_solve_s1 fzM icv snM 1 0 g).2.1 then f3_measure tkvM opvM shvM wyvM bdvM snM (f3_improve_rov tkvM opvM shvM wyvM bdvM fzM snM (f3_solve_s3 tkvM opvM shvM wyvM bdvM fzM (f3_solve_s1 fzM icv snM 1 0 g).2.2 (f3_solve_s1 fzM icv snM 1 0 g).2.1 0 fzM (f3_solve_s2 icv fzM 0 rm).2).2.2 stp) - f3_measure tkvM opvM shvM wyvM bdvM snM (f3_improve_rov tkvM opvM shvM wyvM bdvM fzM snM (f3_solve_s3 tkvM opvM shvM wyvM bdvM fzM (f3_solve_s1 fzM icv snM 1 0 g).2.2 (f3_solve_s1 fzM icv snM 1 0 g).2.1 0 fzM (f3_solve_s2 icv fzM 0 rm).2).2.2 stp) / 1000000000 * 1000000000 else if f3_findExact snM tkvM opvM shvM wyvM bdvM fzM icv (f3_solve_s1 fzM icv snM 1 0 g).2.1 (f3_solve_s1 fzM icv snM 1 0 g).2.2 eav rm = true then f3_measure tkvM opvM shvM wyvM bdvM snM (f3_findExact_rov snM tkvM opvM shvM wyvM bdvM fzM icv (f3_solve_s1 fzM icv snM 1 0 g).2.1 (f3_solve_s1 fzM icv snM 1 0 g).2.2 eav rm) - f3_measure tkvM opvM shvM wyvM bdvM snM (f3_findExact_rov snM tkvM opvM shvM wyvM bdvM fzM icv (f3_solve_s1 fzM icv snM 1 0 g).2.1 (f3_solve_s1 fzM icv snM 1 0 g).2.2 eav rm) / 1000000000 * 1000000000 else f3_measure tkvM opvM shvM wyvM bdvM snM (f3_improve_rov tkvM opvM shvM wyvM bdvM fzM snM (f3_solve_s3 tkvM opvM shvM wyvM bdvM fzM (f3_solve_s1 fzM icv snM 1 0 g).2.2 (f3_solve_s1 fzM icv snM 1 0 g).2.1 0 fzM (f3_solve_s2 icv fzM 0 (f3_findExact_rov snM tkvM opvM shvM wyvM bdvM fzM icv (f3_solve_s1 fzM icv snM 1 0 g).2.1 (f3_solve_s1 fzM icv snM 1 0 g).2.2 eav rm)).2).2.2 stp) - f3_measure tkvM opvM shvM wyvM bdvM snM (f3_improve_rov tkvM opvM shvM wyvM bdvM fzM snM (f3_solve_s3 tkvM opvM shvM wyvM bdvM fzM (f3_solve_s1 fzM icv snM 1 0 g).2.2 (f3_solve_s1 fzM icv snM 1 0 g).2.1 0 fzM (f3_solve_s2 icv fzM 0 (f3_findExact_rov snM tkvM opvM shvM wyvM bdvM fzM icv (f3_solve_s1 fzM icv snM 1 0 g).2.1 (f3_solve_s1 fzM icv snM 1 0 g).2.2 eav rm)).2).2.2 stp) / 1000000000 * 1000000000) := by
        have hk : ∀ (RM : Nat → Nat) (j : Nat), j < snM → f3_keep_rdv rdv snM RM j = RM j := fun RM j hj => by rw [q3_keep, if_pos hj]
        by_cases c5 : f0_fill snM tkvM opvM shv wyvM bdvM f dl dnv rov fzM = true
        · by_cases c6 : 11 < (f3_solve_s1 fzM icv snM 1 0 g).2.1
          · simp only [if_pos c5, if_pos c6] at K1 K2 K3 ⊢
            exact ⟨main K1 K2 K3 (hk _), by unfold f1_home; rw [hcost _ _ K1 K2]⟩
          · by_cases c7 : f3_findExact snM tkvM opvM shvM wyvM bdvM fzM icv (f3_solve_s1 fzM icv snM 1 0 g).2.1 (f3_solve_s1 fzM icv snM 1 0 g).2.2 eav rm = true
            · simp only [if_pos c5, if_neg c6, if_pos c7] at K1 K2 K3 ⊢
              exact ⟨main K1 K2 K3 (hk _), by unfold f1_home; rw [hcost _ _ K1 K2]⟩
            · simp only [if_pos c5, if_neg c6, if_neg c7] at K1 K2 K3 ⊢
              exact ⟨main K1 K2 K3 (hk _), by unfold f1_home; rw [hcost _ _ K1 K2]⟩
        · by_cases c6 : 11 < (f3_solve_s1 fzM icv snM 1 0 g).2.1
          · simp only [if_neg c5, if_pos c6] at K1 K2 K3 ⊢
            exact ⟨main K1 K2 K3 (hk _), by unfold f1_home; rw [hcost _ _ K1 K2]⟩
          · by_cases c7 : f3_findExact snM tkvM opvM shvM wyvM bdvM fzM icv (f3_solve_s1 fzM icv snM 1 0 g).2.1 (f3_solve_s1 fzM icv snM 1 0 g).2.2 eav rm = true
            · simp only [if_neg c5, if_neg c6, if_pos c7] at K1 K2 K3 ⊢
              exact ⟨main K1 K2 K3 (hk _), by unfold f1_home; rw [hcost _ _ K1 K2]⟩
            · simp only [if_neg c5, if_neg c6, if_neg c7] at K1 K2 K3 ⊢
              exact ⟨main K1 K2 K3 (hk _), by unfold f1_home; rw [hcost _ _ K1 K2]⟩
      by_cases c3 : lim = (-1)
      · have c4 : lim < 0 := by rw [c3]; decide
        simp only [if_pos c3, if_pos c4]
        exact inner
      · have c4 : ¬ lim < 0 := d2.resolve_left c3
        simp only [if_neg c3, if_neg c4]
        rw [hld]
        by_cases c8 : f3_allLoads ldvM ≤ lim
        · simp only [if_pos c8]
          exact inner
        · simp only [if_neg c8]
          exact ⟨⟨⟨rfl, rfl, rfl, rfl, rfl, rfl, rfl, rfl⟩, ⟨h1, h2, h3, h4⟩, ⟨d1, d2, d3, d4, d5⟩, Or.inl ⟨rfl, rfl⟩, he, hdc⟩, trivial⟩
    · simp only [if_neg c2]; exact ⟨h0, trivial⟩
theorem rl_solve {f g : Nat → Nat} {dnv eav : Nat → Int64} {rm : Nat → Nat} (stp : Int64) (h : Rel ln fz mo sn bw tkv opv shv ldv wyv bdv dl rov snM tkvM opvM shvM ldvM lim wyvM bdvM isr rn rdv fzM icv) : Rel (f2_solve_ln ln fz mo sn tkv opv shv ldv wyv bdv f dl dnv rov stp) fz mo sn bw tkv opv shv ldv wyv bdv (f2_solve_dl fz mo sn tkv opv shv ldv wyv bdv f dl dnv rov stp) (f2_solve_rov fz mo sn tkv opv shv ldv wyv bdv f dl dnv rov stp) snM tkvM opvM shvM ldvM lim wyvM bdvM (f3_solve_isr snM tkvM opvM shvM ldvM lim wyvM bdvM isr fzM icv g eav rm stp) (f3_solve_rn snM tkvM opvM shvM ldvM lim wyvM bdvM rn fzM icv g eav rm stp) (f3_solve_rdv snM tkvM opvM shvM ldvM lim wyvM bdvM rdv fzM icv g eav rm stp) fzM icv := (rl_solve' stp h).1
theorem re_solve {f g : Nat → Nat} {dnv eav : Nat → Int64} {rm : Nat → Nat} (stp : Int64) (h : Rel ln fz mo sn bw tkv opv shv ldv wyv bdv dl rov snM tkvM opvM shvM ldvM lim wyvM bdvM isr rn rdv fzM icv) : f2_solve fz mo sn tkv opv shv ldv wyv bdv f dl dnv rov stp = f3_solve snM tkvM opvM shvM ldvM lim wyvM bdvM fzM icv g eav rm stp := (rl_solve' stp h).2
end RS2

