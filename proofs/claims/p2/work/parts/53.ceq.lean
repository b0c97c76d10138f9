/-! class and reference side by side: the cost, inserting, exchanging -/
section CEQ
variable {tkv opv shv wyv : Nat → Int64} {bdv : Nat → Bool}
theorem ce_done (a : Nat) (t : Int64) : f1_doneAt tkv opv a t = (if opv a ≤ t then t else opv a) + tkv a := by
  unfold f1_doneAt
  congr 1
  by_cases h1 : opv a < t
  · rw [if_pos h1, if_pos (Int64.le_of_lt h1)]
  · rw [if_neg h1]
    by_cases h2 : opv a ≤ t
    · rw [if_pos h2]
      exact Int64.le_antisymm h2 (Int64.not_lt.mp h1)
    · rw [if_neg h2]
theorem ce_fa {fa : Int64} {c : Bool} {P : Prop} [Decidable P] : (fa + (if c = true then 1 else 0)) + (if P then 0 else 1) = (if c = true then (if P then fa else fa + 1) + 1 else (if P then fa else fa + 1)) := by
  by_cases h1 : c = true <;> by_cases h2 : P
  · rw [if_pos h1, if_pos h2, if_pos h1, if_pos h2, Int64.add_zero]
  · rw [if_pos h1, if_neg h2, if_pos h1, if_neg h2]
  · rw [if_neg h1, if_pos h2, if_neg h1, if_pos h2, Int64.add_zero, Int64.add_zero]
  · rw [if_neg h1, if_neg h2, if_neg h1, if_neg h2, Int64.add_zero]
theorem ce_cost_lp {rov : Nat → Nat} : ∀ (n : Nat) (fa ck : Int64) (he k : Nat), (f1_cost_lp tkv opv shv wyv bdv rov n fa ck he k).1 = (f3_measure_lp tkv opv shv wyv bdv rov n ck fa he k).2.1 ∧ (f1_cost_lp tkv opv shv wyv bdv rov n fa ck he k).2.1 = (f3_measure_lp tkv opv shv wyv bdv rov n ck fa he k).1 ∧ (f1_cost_lp tkv opv shv wyv bdv rov n fa ck he k).2.2.1 = (f3_measure_lp tkv opv shv wyv bdv rov n ck fa he k).2.2.1 := by
  intro n
  induction n with
  | zero => intro fa ck he k; exact ⟨rfl, rfl, rfl⟩
  | succ n ih =>
    intro fa ck he k
    unfold f1_cost_lp f3_measure_lp
    rw [ce_fa, ce_done, Nat.mul_comm he 21]
    exact ih _ _ _ _
/-- the cost of a row is the same in both -/
theorem ce_cost {rov : Nat → Nat} {n : Nat} : f1_cost tkv opv shv wyv bdv rov n = f3_measure tkv opv shv wyv bdv n rov := by
  unfold f1_cost f3_measure
  obtain ⟨h1, h2, h3⟩ := ce_cost_lp (tkv := tkv) (opv := opv) (shv := shv) (wyv := wyv) (bdv := bdv) (rov := rov) n 0 0 0 0
  rw [h1, h2, h3]
  by_cases c : n = 0
  · rw [if_pos c, if_pos c]
  · rw [if_neg c, if_neg c, Nat.mul_comm _ 21, Nat.add_zero]
    congr 3
    split
    · rfl
    · rw [Int64.add_zero]
/-- the measure looks at the row's own places alone, and at no span of the office -/
theorem ce_meas_lp {r1 r2 : Nat → Nat} {sh2 : Nat → Int64} {N : Nat} (hr : ∀ k, k < N → r1 k = r2 k) (hs : ∀ k, k < N → shv (r2 k) = sh2 (r2 k)) : ∀ (n : Nat) (ck fa : Int64) (he k : Nat), k + n = N → f3_measure_lp tkv opv shv wyv bdv r1 n ck fa he k = f3_measure_lp tkv opv sh2 wyv bdv r2 n ck fa he k := by
  intro n
  induction n with
  | zero => intro ck fa he k _; rfl
  | succ n ih =>
    intro ck fa he k hk
    unfold f3_measure_lp
    rw [hr k (by omega), hs k (by omega)]
    exact ih _ _ _ _ (by omega)
theorem ce_meas {r1 r2 : Nat → Nat} {sh2 : Nat → Int64} {N : Nat} (hr : ∀ k, k < N → r1 k = r2 k) (hs : ∀ k, k < N → shv (r2 k) = sh2 (r2 k)) : f3_measure tkv opv shv wyv bdv N r1 = f3_measure tkv opv sh2 wyv bdv N r2 := by
  unfold f3_measure
  rw [ce_meas_lp hr hs N 0 0 0 0 (by omega)]
/-- a stop that goes on by one place -/
theorem ce_step {co p x : Nat} {r f : Nat → Nat} (hp : p < co) (h : ∀ k, k < co + 1 → f k = f3_putIn_rov co r p x k) : ∀ k, k < co + 1 → f2_swap_rov f p (p + 1) k = f3_putIn_rov co r (p + 1) x k := by
  intro k hk
  rw [q2_swap, q3_turn_at, h p (by omega), h (p + 1) (by omega), h k hk, q3_putIn (by omega), q3_putIn (by omega), q3_putIn (by omega), q3_putIn (by omega)]
  by_cases c1 : k = p + 1
  · rw [if_pos c1, if_pos rfl, if_pos c1]
  · rw [if_neg c1, if_neg c1]
    by_cases c2 : k = p
    · subst c2
      rw [if_pos rfl, if_neg (by omega), if_pos (by omega), if_neg (by omega)]
      rfl
    · rw [if_neg c2, if_neg c2]
      by_cases c3 : p < k ∧ k ≤ co
      · rw [if_pos c3, if_pos (by omega)]
      · rw [if_neg c3, if_neg (by omega)]
theorem ce_stepb {co p x : Nat} {r f : Nat → Nat} (hp : p < co) (h : ∀ k, k < co + 1 → f k = f3_putIn_rov co r (p + 1) x k) : ∀ k, k < co + 1 → f2_swap_rov f (p + 1) p k = f3_putIn_rov co r p x k := by
  intro k hk
  rw [q2_swap, q3_turn_at, h p (by omega), h (p + 1) (by omega), h k hk, q3_putIn (by omega), q3_putIn (by omega), q3_putIn (by omega), q3_putIn (by omega)]
  by_cases c1 : k = p
  · subst c1
    rw [if_pos rfl, if_pos rfl, if_pos rfl]
  · rw [if_neg c1, if_neg c1]
    by_cases c2 : k = p + 1
    · subst c2
      rw [if_pos rfl, if_neg (by omega), if_neg (by omega), if_pos (by omega)]
      rfl
    · rw [if_neg c2, if_neg c2]
      by_cases c3 : p < k ∧ k ≤ co
      · rw [if_pos c3, if_pos (by omega)]
      · rw [if_neg c3, if_neg (by omega)]
/-- the cheapest place, as the reference finds it, behind the first one -/
theorem ce_i2 {co x fz : Nat} {r : Nat → Nat} (hco : co ≤ 19) : ∀ (n pl : Nat) (lst : Int64) (k : Nat) (f g : Nat → Nat), k + n = co → fz ≤ pl → pl ≤ k → (∀ j, j < co + 1 → f j = f3_putIn_rov co r k x j) → (∀ j, j < co → g j = r j) →
    (f3_insert_lp tkv opv shv wyv bdv co x n (nI pl) lst (k + 1) g).1 = nI (f2_insert_i2 tkv opv shv wyv bdv co n pl lst k f).1 ∧ (f2_insert_i2 tkv opv shv wyv bdv co n pl lst k f).1 ≤ co ∧ fz ≤ (f2_insert_i2 tkv opv shv wyv bdv co n pl lst k f).1 ∧ ∀ j, j < co + 1 → (f2_insert_i2 tkv opv shv wyv bdv co n pl lst k f).2.2.2 j = f3_putIn_rov co r co x j := by
  intro n
  induction n with
  | zero =>
    intro pl lst k f g h1 h0 h2 h3 h4
    have e : k = co := by omega
    subst e
    exact ⟨rfl, h2, h0, h3⟩
  | succ n ih =>
    intro pl lst k f g h1 h0 h2 h3 h4
    unfold f3_insert_lp f2_insert_i2
    have hst := ce_step (r := r) (x := x) (show k < co by omega) h3
    have hm : f3_measure tkv opv shv wyv bdv (f3_putIn_rs co) (f3_putIn_rov co g (k + 1) x) = f1_cost tkv opv shv wyv bdv (f2_swap_rov f k (k + 1)) (co + 1) := by
      rw [ce_cost]
      refine ce_meas (N := co + 1) (fun j hj => ?_) (fun _ _ => rfl)
      rw [hst j hj, q3_putIn (by omega), q3_putIn (by omega)]
      by_cases c1 : j = k + 1
      · rw [if_pos c1, if_pos c1]
      · rw [if_neg c1, if_neg c1]
        by_cases c2 : k + 1 < j ∧ j ≤ co
        · rw [if_pos c2, if_pos c2]; exact h4 _ (by omega)
        · rw [if_neg c2, if_neg c2]; exact h4 _ (by omega)
    have hg : ∀ j, j < co → f3_takeOut_rov (f3_putIn_rs co) (f3_putIn_rov co g (k + 1) x) (k + 1) j = r j := fun j hj => by
      rw [show f3_putIn_rs co = co + 1 from rfl, q3_tp (by omega) hj]; exact h4 j hj
    have hn : ¬ nI pl < 0 := nI_pos (by omega)
    rw [hm]
    simp only [if_neg hn]
    generalize f1_cost tkv opv shv wyv bdv (f2_swap_rov f k (k + 1)) (co + 1) = c at *
    by_cases c1 : lst ≤ c
    · simp only [if_pos c1]
      exact ih pl lst (k + 1) _ _ (by omega) h0 (by omega) hst hg
    · simp only [if_neg c1]
      exact ih (k + 1) c (k + 1) _ _ (by omega) (by omega) (Nat.le_refl _) hst hg
theorem ce_i3 {co x : Nat} {r : Nat → Nat} : ∀ (n k pl : Nat) (f : Nat → Nat), k = pl + n → k ≤ co → (∀ j, j < co + 1 → f j = f3_putIn_rov co r k x j) → ∀ j, j < co + 1 → (f2_insert_i3 n k f).2 j = f3_putIn_rov co r pl x j := by
  intro n
  induction n with
  | zero =>
    intro k pl f h1 h2 h3
    have e : k = pl := by omega
    subst e
    exact h3
  | succ n ih =>
    intro k pl f h1 h2 h3
    unfold f2_insert_i3
    refine ih (k - 1) pl _ (by omega) (by omega) ?_
    have e : k = (k - 1) + 1 := by omega
    have h4 := ce_stepb (r := r) (x := x) (p := k - 1) (f := f) (show k - 1 < co by omega) (by rw [← e]; exact h3)
    rw [← e] at h4
    exact h4
/-- inserting: the same place, the same row -/
theorem ce_insert {co x fz : Nat} {r : Nat → Nat} (hco : co ≤ 19) (hfz : fz ≤ co) : f3_insert tkv opv shv wyv bdv fz co r x = nI (f2_insert fz tkv opv shv wyv bdv r x co) ∧ f2_insert fz tkv opv shv wyv bdv r x co ≤ co ∧ fz ≤ f2_insert fz tkv opv shv wyv bdv r x co ∧ ∀ j, j < co + 1 → f2_insert_rov fz tkv opv shv wyv bdv r x co j = f3_insert_rov tkv opv shv wyv bdv fz co r x j := by
  have h0 : ∀ j, j < co + 1 → va_up (f2_insert_i1 (co - fz) co r).2 fz x j = f3_putIn_rov co r fz x j := fun j _ => by rw [q2_put]
  have hm : f3_measure tkv opv shv wyv bdv (f3_putIn_rs co) (f3_putIn_rov co r fz x) = f1_cost tkv opv shv wyv bdv (va_up (f2_insert_i1 (co - fz) co r).2 fz x) (co + 1) := by
    rw [ce_cost, q2_put]; rfl
  have hg : ∀ j, j < co → f3_takeOut_rov (f3_putIn_rs co) (f3_putIn_rov co r fz x) fz j = r j := fun j hj => by
    rw [show f3_putIn_rs co = co + 1 from rfl, q3_tp hfz hj]
  have hlp : f3_insert_lp tkv opv shv wyv bdv co x (co + 1 - fz) (-1) 0 fz r = f3_insert_lp tkv opv shv wyv bdv co x (co - fz) (nI fz) (f1_cost tkv opv shv wyv bdv (va_up (f2_insert_i1 (co - fz) co r).2 fz x) (co + 1)) (fz + 1) (f3_takeOut_rov (f3_putIn_rs co) (f3_putIn_rov co r fz x) fz) := by
    have e : co + 1 - fz = (co - fz) + 1 := by omega
    rw [e]
    have hn : (-1 : Int32) < 0 := by decide
    rw [← hm]
    show f3_insert_lp tkv opv shv wyv bdv co x (co - fz) _ _ _ _ = _
    simp only [if_pos hn]
  obtain ⟨a1, a2, a3, a4⟩ := ce_i2 (tkv := tkv) (opv := opv) (shv := shv) (wyv := wyv) (bdv := bdv) (r := r) (x := x) hco (co - fz) fz (f1_cost tkv opv shv wyv bdv (va_up (f2_insert_i1 (co - fz) co r).2 fz x) (co + 1)) fz _ _ (by omega) (Nat.le_refl _) (Nat.le_refl _) h0 hg
  rw [← hlp] at a1
  have hpl : f3_insert tkv opv shv wyv bdv fz co r x = nI (f2_insert fz tkv opv shv wyv bdv r x co) := by
    unfold f3_insert f2_insert
    rw [a1, cl_nI (by omega)]
  refine ⟨hpl, a2, a3, fun j hj => ?_⟩
  obtain ⟨_, hr0⟩ := q3_ins_lp (tkv := tkv) (opv := opv) (shv := shv) (wyv := wyv) (bdv := bdv) (x := x) hco hfz r (co + 1 - fz) (-1) 0 fz r (by omega) (Nat.le_refl _) (Or.inl ⟨by decide, rfl⟩) (fun _ _ => rfl)
  unfold f2_insert_rov f3_insert_rov
  rw [a1, cl_nI (by omega)]
  generalize (f2_insert_i2 tkv opv shv wyv bdv co (co - fz) fz (f1_cost tkv opv shv wyv bdv (va_up (f2_insert_i1 (co - fz) co r).2 fz x) (co + 1)) fz (va_up (f2_insert_i1 (co - fz) co r).2 fz x)).1 = P at a2 a3 ⊢
  rw [ce_i3 (r := r) (x := x) (co - P) co P _ (by omega) (Nat.le_refl _) a4 j hj, q3_putIn a2, q3_putIn a2]
  by_cases c1 : j = P
  · rw [if_pos c1, if_pos c1]
  · rw [if_neg c1, if_neg c1]
    by_cases c2 : P < j ∧ j ≤ co
    · rw [if_pos c2, if_pos c2]; exact (hr0 _ (by omega)).symm
    · rw [if_neg c2, if_neg c2]
      by_cases c3 : j < co
      · exact (hr0 _ c3).symm
      · omega
end CEQ

