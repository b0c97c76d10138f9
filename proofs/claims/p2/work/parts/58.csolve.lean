theorem q0_fill_f {sn : Nat} {tkv opv shv wyv : Nat → Int64} {bdv : Nat → Bool} {fev : Nat → Nat} {dl : Nat} {dnv : Nat → Int64} {rov : Nat → Nat} {z : Nat} (h : ¬ f0_fill sn tkv opv shv wyv bdv fev dl dnv rov z = true) : f0_fill_rov sn tkv opv shv wyv bdv fev dl dnv rov z = rov := by
  unfold f0_fill at h
  unfold f0_fill_rov
  split
  · rename_i c1
    rw [if_pos c1] at h
    split
    · rfl
    · rename_i c2
      rw [if_neg c2] at h
      split
      · rfl
      · rename_i c3
        rw [if_neg c3] at h
        exact absurd rfl h
  · rfl
theorem q0_fill_le {sn : Nat} {tkv opv shv wyv : Nat → Int64} {bdv : Nat → Bool} {fev : Nat → Nat} {dl : Nat} {dnv : Nat → Int64} {rov : Nat → Nat} {z : Nat} (hsn : sn ≤ 20) (hz : z ≤ sn) (hri : q_row z sn rov) (h : f0_fill sn tkv opv shv wyv bdv fev dl dnv rov z = true) : ∀ k, k < sn → f0_fill_rov sn tkv opv shv wyv bdv fev dl dnv rov z k ≤ 20 := by
  unfold f0_fill at h
  unfold f0_fill_rov
  by_cases c1 : sn - z ≤ 11
  · rw [if_pos c1] at h ⊢
    obtain ⟨hA, hB, hC⟩ := q3_free (fev := fev) hri
    obtain ⟨e1, e2⟩ := q0_free (fev := fev) hri (by omega)
    have hA9 : f0_collectFree_ct sn fev rov z + z = sn := by rw [e1]; exact hA
    have hB9 : ∀ j, j < f0_collectFree_ct sn fev rov z → f0_collectFree_fev sn fev rov z j ≤ 20 := fun j hj => by rw [e2]; rw [e1] at hj; have := (hB j hj).2.1; omega
    generalize f0_collectFree_ct sn fev rov z = CT at h hA9 hB9 ⊢
    generalize f0_collectFree_fev sn fev rov z = FE at h hB9 ⊢
    generalize f0_followFrozen_stc tkv opv shv wyv bdv rov z = SC at h ⊢
    generalize f0_reckonSets_dnv tkv opv shv wyv bdv CT (f0_followFrozen_sta tkv opv shv wyv bdv rov z) SC FE dl dnv = DN at h ⊢
    generalize f0_earliest tkv opv shv wyv bdv CT (f0_followFrozen_sta tkv opv shv wyv bdv rov z) SC FE DN (2 ^ CT - 1) 0 = HM at h ⊢
    by_cases c2 : SC = 1000000000000000
    · rw [if_pos c2] at h; cases h
    · rw [if_neg c2] at h ⊢
      by_cases c3 : HM = 1000000000000000
      · rw [if_pos c3] at h; cases h
      · rw [if_neg c3]
        intro k hk
        unfold f0_readBack_rov
        by_cases c4 : CT = 0
        · have e : z + CT - z = 0 := by omega
          rw [e]
          have := (hri.1 k (by omega)).2
          show rov k ≤ 20
          omega
        · have key : ∀ (n t b : Nat) (du : Int64) (u : Nat) (r : Nat → Nat), u = z + n → u ≤ sn → (∀ i, i < z → r i ≤ 20) → (∀ i, u ≤ i → i < sn → r i ≤ 20) → ∀ i, i < sn → (f0_readBack_lp tkv opv shv wyv bdv CT FE DN n t b du u r).2.2.2.2 i ≤ 20 := by
            intro n
            induction n with
            | zero =>
              intro t b du u r h1 h2 h3 h4 i hi
              rcases Nat.lt_or_ge i u with q | q
              · exact h3 i (by omega)
              · exact h4 i q hi
            | succ n ih =>
              intro t b du u r h1 h2 h3 h4
              unfold f0_readBack_lp
              refine ih _ _ _ _ _ (by omega) (by omega) (fun i hi => ?_) (fun i h5 h6 => ?_)
              · rw [va_up_ne _ _ (by omega)]; exact h3 i hi
              · by_cases e : i = u - 1
                · subst e; rw [va_up_self]; exact hB9 _ (q0_ll (by omega))
                · rw [va_up_ne _ _ e]; exact h4 i (by omega) h6
          exact key _ _ _ _ _ _ (by omega) (by omega) (fun i hi => by have := (hri.1 i hi).2; omega) (fun i h5 h6 => by omega) k hk
  · rw [if_neg c1] at h; cases h
theorem q2_ifs_lp {tkv opv shv wyv : Nat → Int64} {bdv : Nat → Bool} {fz sn : Nat} {r0 : Nat → Nat} (hsn : sn ≤ 20) : ∀ (n cn k : Nat) (rov : Nat → Nat), k + n = sn + 1 → (fz ≤ cn ∧ cn ≤ 20) → (∃ fe, (f3_solve_s1 fz r0 (sn + 1 - k) k (cn - fz) fe).2.1 + fz = sn) → (∀ i, i < fz → rov i = r0 i) → (∀ i, i < cn → rov i ≤ 20) →
    (f2_insertFreeStops_lp fz tkv opv shv wyv bdv n cn k rov).1 = sn ∧ ∀ i, i < sn → (f2_insertFreeStops_lp fz tkv opv shv wyv bdv n cn k rov).2.2 i ≤ 20 := by
  intro n
  induction n with
  | zero =>
    intro cn k rov h1 h2 h3 h4 h5
    obtain ⟨fe, h3⟩ := h3
    have e : sn + 1 - k = 0 := by omega
    rw [e] at h3
    have h6 : cn - fz + fz = sn := h3
    have h7 : cn = sn := by omega
    subst h7
    exact ⟨rfl, h5⟩
  | succ n ih =>
    intro cn k rov h1 h2 h3 h4 h5
    obtain ⟨a, b, c, d⟩ := q2_if_step (tkv := tkv) (opv := opv) (shv := shv) (wyv := wyv) (bdv := bdv) hsn (show k ≤ sn by omega) h2 h3 h4 h5
    exact ih _ _ _ (by omega) a b c d
theorem q2_ifs_le {tkv opv shv wyv : Nat → Int64} {bdv : Nat → Bool} {fz sn : Nat} {rov : Nat → Nat} (hsn : sn ≤ 20) (hf : fz ≤ sn) (hri : q_row fz sn rov) : ∀ i, i < sn → f2_insertFreeStops_rov fz sn tkv opv shv wyv bdv rov i ≤ 20 := by
  unfold f2_insertFreeStops_rov
  have h9 := (q3_free (fev := fun _ => 0) hri).1
  have e9 : sn + 1 - 1 = sn := by omega
  have e8 : fz - fz = 0 := by omega
  exact (q2_ifs_lp hsn sn fz 1 rov (by omega) ⟨Nat.le_refl _, by omega⟩ ⟨fun _ => 0, by rw [e9, e8]; exact h9⟩ (fun _ _ => rfl) (fun i hi => by have := (hri.1 i hi).2; omega)).2

