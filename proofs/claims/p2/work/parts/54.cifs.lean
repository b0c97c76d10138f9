theorem q2_s1_t {z sn k c : Nat} {r0 fe : Nat → Nat} (hk : k ≤ sn) (h : (f3_solve_s1 z r0 (sn + 1 - k) k c fe).2.1 + z = sn) : (f3_isFrozen z r0 k = true → ∃ fe2, (f3_solve_s1 z r0 (sn + 1 - (k + 1)) (k + 1) c fe2).2.1 + z = sn) ∧ (¬ f3_isFrozen z r0 k = true → c + 1 + z ≤ sn ∧ ∃ fe2, (f3_solve_s1 z r0 (sn + 1 - (k + 1)) (k + 1) (c + 1) fe2).2.1 + z = sn) := by
  have e : sn + 1 - k = (sn + 1 - (k + 1)) + 1 := by omega
  rw [e] at h
  unfold f3_solve_s1 at h
  constructor
  · intro c1
    simp only [if_pos c1] at h
    exact ⟨_, h⟩
  · intro c1
    simp only [if_neg c1] at h
    have := (q3_s1_mono (z := z) (rov := r0) (sn + 1 - (k + 1)) (k + 1) (c + 1) (va_up fe c k)).1
    exact ⟨by omega, _, h⟩
theorem q2_holds_c {z x : Nat} {rov r0 : Nat → Nat} (h : ∀ i, i < z → rov i = r0 i) : f1_holds rov z x = f3_isFrozen z r0 x := by
  rw [q0_holds]
  have h2 : f3_isFrozen z rov x = true ↔ f3_isFrozen z r0 x = true := by
    rw [q3_isFr, q3_isFr]
    constructor
    · rintro ⟨i, a, b⟩; exact ⟨i, a, by rw [← h i a]; exact b⟩
    · rintro ⟨i, a, b⟩; exact ⟨i, a, by rw [h i a]; exact b⟩
  cases a : f3_isFrozen z rov x <;> cases b : f3_isFrozen z r0 x <;> simp_all

section CIF
variable {tkv opv shv wyv : Nat → Int64} {bdv : Nat → Bool}
theorem q2_if_step {fz sn k cn : Nat} {rov r0 : Nat → Nat} (hsn : sn ≤ 20) (hk : k ≤ sn) (hcn : fz ≤ cn ∧ cn ≤ 20) (hfr : ∃ fe, (f3_solve_s1 fz r0 (sn + 1 - k) k (cn - fz) fe).2.1 + fz = sn) (hpre : ∀ i, i < fz → rov i = r0 i) (hro : ∀ i, i < cn → rov i ≤ 20) :
    (fz ≤ (if f1_holds rov fz k = true then cn else cn + 1) ∧ (if f1_holds rov fz k = true then cn else cn + 1) ≤ 20) ∧ (∃ fe, (f3_solve_s1 fz r0 (sn + 1 - (k + 1)) (k + 1) ((if f1_holds rov fz k = true then cn else cn + 1) - fz) fe).2.1 + fz = sn) ∧ (∀ i, i < fz → (if f1_holds rov fz k = true then rov else f2_insert_rov fz tkv opv shv wyv bdv rov k cn) i = r0 i) ∧ (∀ i, i < (if f1_holds rov fz k = true then cn else cn + 1) → (if f1_holds rov fz k = true then rov else f2_insert_rov fz tkv opv shv wyv bdv rov k cn) i ≤ 20) := by
  obtain ⟨fe, hfe⟩ := hfr
  have ht := q2_s1_t hk hfe
  rw [q2_holds_c (x := k) hpre]
  by_cases c : f3_isFrozen fz r0 k = true
  · simp only [if_pos c]
    exact ⟨hcn, ht.1 c, hpre, hro⟩
  · obtain ⟨h1, h2⟩ := ht.2 c
    simp only [if_neg c]
    have e : cn + 1 - fz = cn - fz + 1 := by omega
    obtain ⟨_, _, _, a4⟩ := ce_insert (tkv := tkv) (opv := opv) (shv := shv) (wyv := wyv) (bdv := bdv) (co := cn) (x := k) (fz := fz) (r := rov) (by omega) hcn.1
    obtain ⟨r1, pl, p1, p2, e1, _, e2⟩ := q3_insert (tkv := tkv) (opv := opv) (shv := shv) (wyv := wyv) (bdv := bdv) (x := k) (rs := cn) (fz := fz) (by omega) hcn.1 rov
    refine ⟨⟨by omega, by omega⟩, by rw [e]; exact h2, fun i hi => ?_, fun i hi => ?_⟩
    · rw [a4 i (by omega), e2, q3_putIn p2, if_neg (by omega), if_neg (by omega), e1 i (by omega)]
      exact hpre i hi
    · rw [a4 i hi]
      exact q3_insert_le (by omega) hcn.1 (by omega) hro i hi
theorem q3_s1_keep {z : Nat} {rov : Nat → Nat} : ∀ (n k ct : Nat) (fev : Nat → Nat) (j : Nat), j < ct → (f3_solve_s1 z rov n k ct fev).2.2 j = fev j := by
  intro n
  induction n with
  | zero => intro k ct fev j _; rfl
  | succ n ih =>
    intro k ct fev j hj
    unfold f3_solve_s1
    by_cases c : f3_isFrozen z rov k = true
    · simp only [if_pos c]; exact ih _ _ _ j hj
    · simp only [if_neg c]
      rw [ih _ _ _ j (by omega), va_up_ne _ _ (by omega)]
theorem ce_ins_c {co x fz : Nat} {r r2 : Nat → Nat} (hco : co ≤ 19) (hfz : fz ≤ co) (h : ∀ j, j < co → r j = r2 j) : ∀ (n : Nat) (ch : Int32) (lst : Int64) (pl : Nat) (f g : Nat → Nat), pl + n = co + 1 → (∀ j, j < co → f j = g j) →
    (f3_insert_lp tkv opv shv wyv bdv co x n ch lst pl f).1 = (f3_insert_lp tkv opv shv wyv bdv co x n ch lst pl g).1 := by
  intro n
  induction n with
  | zero => intro ch lst pl f g _ _; rfl
  | succ n ih =>
    intro ch lst pl f g h1 h2
    unfold f3_insert_lp
    have hm : f3_measure tkv opv shv wyv bdv (f3_putIn_rs co) (f3_putIn_rov co f pl x) = f3_measure tkv opv shv wyv bdv (f3_putIn_rs co) (f3_putIn_rov co g pl x) := by
      refine ce_meas (N := co + 1) (fun j hj => ?_) (fun _ _ => rfl)
      rw [q3_putIn (by omega), q3_putIn (by omega)]
      by_cases c1 : j = pl
      · rw [if_pos c1, if_pos c1]
      · rw [if_neg c1, if_neg c1]
        by_cases c2 : pl < j ∧ j ≤ co
        · rw [if_pos c2, if_pos c2]; exact h2 _ (by omega)
        · rw [if_neg c2, if_neg c2]; exact h2 _ (by omega)
    rw [hm]
    refine ih _ _ _ _ _ (by omega) (fun j hj => ?_)
    rw [show f3_putIn_rs co = co + 1 from rfl, q3_tp (by omega) hj, q3_tp (by omega) hj]
    exact h2 j hj
theorem ce_ins_r {co x fz : Nat} {r r2 : Nat → Nat} (hco : co ≤ 19) (hfz : fz ≤ co) (h : ∀ j, j < co → r j = r2 j) : f3_insert tkv opv shv wyv bdv fz co r x = f3_insert tkv opv shv wyv bdv fz co r2 x ∧ ∀ j, j < co + 1 → f3_insert_rov tkv opv shv wyv bdv fz co r x j = f3_insert_rov tkv opv shv wyv bdv fz co r2 x j := by
  have e := ce_ins_c (tkv := tkv) (opv := opv) (shv := shv) (wyv := wyv) (bdv := bdv) (x := x) hco hfz h (co + 1 - fz) (-1) 0 fz r r2 (by omega) h
  obtain ⟨g1, h1⟩ := q3_ins_lp (tkv := tkv) (opv := opv) (shv := shv) (wyv := wyv) (bdv := bdv) (x := x) hco hfz r (co + 1 - fz) (-1) 0 fz r (by omega) (Nat.le_refl _) (Or.inl ⟨by decide, rfl⟩) (fun _ _ => rfl)
  obtain ⟨g2, h2⟩ := q3_ins_lp (tkv := tkv) (opv := opv) (shv := shv) (wyv := wyv) (bdv := bdv) (x := x) hco hfz r2 (co + 1 - fz) (-1) 0 fz r2 (by omega) (Nat.le_refl _) (Or.inl ⟨by decide, rfl⟩) (fun _ _ => rfl)
  refine ⟨by unfold f3_insert; rw [e], fun j hj => ?_⟩
  unfold f3_insert_rov
  rw [e]
  have hp : cl (f3_insert_lp tkv opv shv wyv bdv co x (co + 1 - fz) (-1) 0 fz r2).1 ≤ co := by
    rcases g2 with z | z
    · omega
    · exact z.2.2
  rw [q3_putIn hp, q3_putIn hp]
  generalize cl (f3_insert_lp tkv opv shv wyv bdv co x (co + 1 - fz) (-1) 0 fz r2).1 = P at hp ⊢
  by_cases c1 : j = P
  · rw [if_pos c1, if_pos c1]
  · rw [if_neg c1, if_neg c1]
    by_cases c2 : P < j ∧ j ≤ co
    · rw [if_pos c2, if_pos c2, h1 _ (by omega), h2 _ (by omega)]; exact h _ (by omega)
    · rw [if_neg c2, if_neg c2, h1 _ (by omega), h2 _ (by omega)]; exact h _ (by omega)
end CIF

