theorem q0_holds_lp {rov : Nat → Nat} {x : Nat} : ∀ n k, f1_holds_lp rov x n k = true ↔ ∃ i, k ≤ i ∧ i < k + n ∧ rov i = x := by
  intro n
  induction n with
  | zero =>
    intro k
    unfold f1_holds_lp
    constructor
    · intro h; cases h
    · rintro ⟨i, h1, h2, _⟩; omega
  | succ n ih =>
    intro k
    unfold f1_holds_lp
    by_cases c : rov k = x
    · rw [if_pos c]
      exact ⟨fun _ => ⟨k, Nat.le_refl _, by omega, c⟩, fun _ => rfl⟩
    · rw [if_neg c, ih]
      constructor
      · rintro ⟨i, h1, h2, h3⟩; exact ⟨i, by omega, by omega, h3⟩
      · rintro ⟨i, h1, h2, h3⟩
        by_cases e : i = k
        · subst e; exact absurd h3 c
        · exact ⟨i, by omega, by omega, h3⟩
theorem q0_holds {rov : Nat → Nat} {z x : Nat} : f1_holds rov z x = f3_isFrozen z rov x := by
  have h : f1_holds rov z x = true ↔ f3_isFrozen z rov x = true := by
    unfold f1_holds
    rw [q0_holds_lp, q3_isFr]
    constructor
    · rintro ⟨i, _, h2, h3⟩; exact ⟨i, by omega, h3⟩
    · rintro ⟨i, h2, h3⟩; exact ⟨i, Nat.zero_le _, by omega, h3⟩
  cases a : f1_holds rov z x <;> cases b : f3_isFrozen z rov x <;> simp_all
theorem q3_s1_mono {z : Nat} {rov : Nat → Nat} : ∀ (n k ct : Nat) (fev : Nat → Nat), ct ≤ (f3_solve_s1 z rov n k ct fev).2.1 ∧ ((f3_solve_s1 z rov n k ct fev).2.1 = ct → (f3_solve_s1 z rov n k ct fev).2.2 = fev) := by
  intro n
  induction n with
  | zero => intro k ct fev; exact ⟨Nat.le_refl _, fun _ => rfl⟩
  | succ n ih =>
    intro k ct fev
    unfold f3_solve_s1
    by_cases c : f3_isFrozen z rov k = true
    · simp only [if_pos c]; exact ih _ _ _
    · simp only [if_neg c]
      obtain ⟨a, b⟩ := ih (k + 1) (ct + 1) (va_up fev ct k)
      exact ⟨by omega, fun e => by omega⟩
theorem q0_cf {z : Nat} {rov : Nat → Nat} : ∀ (n k ct : Nat) (fev : Nat → Nat), (f3_solve_s1 z rov n k ct fev).2.1 ≤ 11 → (f0_collectFree_lp rov z n k ct fev).2.1 = (f3_solve_s1 z rov n k ct fev).2.1 ∧ (f0_collectFree_lp rov z n k ct fev).2.2 = (f3_solve_s1 z rov n k ct fev).2.2 := by
  intro n
  induction n with
  | zero => intro k ct fev _; exact ⟨rfl, rfl⟩
  | succ n ih =>
    intro k ct fev h
    unfold f0_collectFree_lp
    by_cases c : 11 ≤ ct
    · rw [if_pos c]
      obtain ⟨a, b⟩ := q3_s1_mono (z := z) (rov := rov) (n + 1) k ct fev
      have e : (f3_solve_s1 z rov (n + 1) k ct fev).2.1 = ct := by omega
      exact ⟨e.symm, (b e).symm⟩
    · rw [if_neg c, q0_holds]
      exact ih _ _ _ h
/-- the free stops of the class are those of the reference -/
theorem q0_free {z sn : Nat} {rov fev : Nat → Nat} (hi : q_row z sn rov) (hs : sn - z ≤ 11) : f0_collectFree_ct sn fev rov z = (f3_solve_s1 z rov sn 1 0 fev).2.1 ∧ f0_collectFree_fev sn fev rov z = (f3_solve_s1 z rov sn 1 0 fev).2.2 := by
  unfold f0_collectFree_ct f0_collectFree_fev
  have h := (q3_free (fev := fev) hi).1
  exact q0_cf sn 1 0 fev (by omega)
theorem q0_ff_sta {tkv opv shv wyv : Nat → Int64} {bdv : Nat → Bool} {rov : Nat → Nat} {z B : Nat} (hro : ∀ k, k < z → rov k ≤ B) : ∀ (n k sta : Nat) (stc : Int64), k + n = z → sta ≤ B → (f0_followFrozen_lp tkv opv shv wyv bdv rov n k sta stc).2.1 ≤ B := by
  intro n
  induction n with
  | zero => intro k sta stc _ h; exact h
  | succ n ih => intro k sta stc hk h; exact ih _ _ _ (by omega) (hro k (by omega))

