section QBK
variable {tkv opv shv wyv : Nat → Int64} {bdv : Nat → Bool} {fev icv : Nat → Nat} {fr fz sn : Nat}
/-- inserting all that are free -/
theorem q3_s3 {B : Nat} (hff : fz + fr ≤ 20) (hfe : ∀ j, j < fr → 1 ≤ fev j ∧ fev j ≤ B ∧ f3_isFrozen fz icv (fev j) = false) (hin : ∀ i j, i < j → j < fr → fev i < fev j) : ∀ (n k rs : Nat) (rov : Nat → Nat), k + n = fr → rs = fz + k → q_row rs B rov → (∀ i, i < fz → rov i = icv i) → (∀ i, i < rs → (∃ a, a < fz ∧ icv a = rov i) ∨ ∃ j, j < k ∧ rov i = fev j) →
    (f3_solve_s3 tkv opv shv wyv bdv fz fev n k rs rov).2.1 = fz + fr ∧ q_row (fz + fr) B (f3_solve_s3 tkv opv shv wyv bdv fz fev n k rs rov).2.2 ∧ ∀ i, i < fz → (f3_solve_s3 tkv opv shv wyv bdv fz fev n k rs rov).2.2 i = icv i := by
  intro n
  induction n with
  | zero =>
    intro k rs rov h1 h2 h3 h4 h5
    have e : k = fr := by omega
    subst e; subst h2
    exact ⟨rfl, h3, h4⟩
  | succ n ih =>
    intro k rs rov h1 h2 h3 h4 h5
    have hk := hfe k (by omega)
    have hx : ∀ i, i < rs → rov i ≠ fev k := by
      intro i hi z
      rcases h5 i hi with ⟨a, a1, a2⟩ | ⟨j, j1, j2⟩
      · have := q3_isFr.mpr ⟨a, a1, a2.trans z⟩
        rw [hk.2.2] at this; cases this
      · have := hin j k j1 (by omega)
        omega
    obtain ⟨r1, r2, r3⟩ := qr_insert (tkv := tkv) (opv := opv) (shv := shv) (wyv := wyv) (bdv := bdv) (fz := fz) (show rs ≤ 19 by omega) (by omega) h3 hk.1 hk.2.1 hx
    refine ih (k + 1) (rs + 1) _ (by omega) (by omega) r1 (fun i hi => by rw [r2 i hi]; exact h4 i hi) (fun i hi => ?_)
    rcases r3 i hi with e | ⟨i2, hi2, e⟩
    · exact Or.inr ⟨k, by omega, e⟩
    · rw [e]
      rcases h5 i2 hi2 with a | ⟨j, j1, j2⟩
      · exact Or.inl a
      · exact Or.inr ⟨j, by omega, j2⟩
/-- the row that inserting makes out of the frozen ones -/
theorem q3_ins_row {rov : Nat → Nat} {fev0 : Nat → Nat} (hsn : sn ≤ 20) (hi : q_row fz sn icv) : (f3_solve_s3 tkv opv shv wyv bdv fz (f3_solve_s1 fz icv sn 1 0 fev0).2.2 (f3_solve_s1 fz icv sn 1 0 fev0).2.1 0 fz (f3_solve_s2 icv fz 0 rov).2).2.1 = sn ∧ q_row sn sn (f3_solve_s3 tkv opv shv wyv bdv fz (f3_solve_s1 fz icv sn 1 0 fev0).2.2 (f3_solve_s1 fz icv sn 1 0 fev0).2.1 0 fz (f3_solve_s2 icv fz 0 rov).2).2.2 ∧ ∀ i, i < fz → (f3_solve_s3 tkv opv shv wyv bdv fz (f3_solve_s1 fz icv sn 1 0 fev0).2.2 (f3_solve_s1 fz icv sn 1 0 fev0).2.1 0 fz (f3_solve_s2 icv fz 0 rov).2).2.2 i = icv i := by
  obtain ⟨a, b, c⟩ := q3_free (fev := fev0) hi
  have e2 : ∀ i, i < fz → (f3_solve_s2 icv fz 0 rov).2 i = icv i := fun i h => by rw [q3_s2, if_pos (by omega)]
  have r := q3_s3 (tkv := tkv) (opv := opv) (shv := shv) (wyv := wyv) (bdv := bdv) (by omega) b c (f3_solve_s1 fz icv sn 1 0 fev0).2.1 0 fz (f3_solve_s2 icv fz 0 rov).2 (by omega) rfl (qr_ext e2 hi) e2 (fun i h => Or.inl ⟨i, h, (e2 i h).symm⟩)
  have e : fz + (f3_solve_s1 fz icv sn 1 0 fev0).2.1 = sn := by omega
  rw [e] at r
  exact r
theorem q3_fl1 : ∀ (n : Nat) (ck : Int64) (la k : Nat) (rov : Nat → Nat) (j : Nat), (f3_findExact_l1 tkv opv shv wyv bdv icv n ck la k rov).2.2.2 j = if k ≤ j ∧ j < k + n then icv j else rov j := by
  intro n
  induction n with
  | zero =>
    intro ck la k rov j
    rw [if_neg (by omega)]; rfl
  | succ n ih =>
    intro ck la k rov j
    unfold f3_findExact_l1
    rw [ih]
    by_cases h1 : k + 1 ≤ j ∧ j < k + 1 + n
    · rw [if_pos h1, if_pos (by omega)]
    · rw [if_neg h1]
      by_cases h2 : j = k
      · subst h2; rw [if_pos (by omega), va_up_self]
      · rw [if_neg (by omega), va_up_ne _ _ h2]
theorem q3_fl2 {eav : Nat → Int64} {se : Nat} (hf : fr ≤ 20) : ∀ (n : Nat) (at_ : Int32) (fi : Int64) (u : Nat), u = n → u ≤ fr → q3_av fr (fun k => f3_wellHome wyv bdv (fev k) (eav (11 * se + k)) < 4000000000000000000) at_ → q3_av fr (fun k => f3_wellHome wyv bdv (fev k) (eav (11 * se + k)) < 4000000000000000000) (f3_findExact_l2 wyv bdv fev eav se n at_ fi u).1 := by
  intro n
  induction n with
  | zero => intro at_ fi u _ _ h; exact h
  | succ n ih =>
    intro at_ fi u h1 h2 h
    exact ih _ _ _ (by omega) (by omega) (q3_av_s h (by omega) hf (fun z => z))
theorem q3_fl4 {eav : Nat → Int64} {se aa ls : Nat} (hf : fr ≤ 20) : ∀ (n : Nat) (bf : Int32) (v : Nat), v = n → v ≤ fr → q3_av fr (q3_fit tkv opv shv wyv bdv fev eav ls se aa) bf → (∀ j, v ≤ j → j < fr → q3_fit tkv opv shv wyv bdv fev eav ls se aa j → ¬ bf < 0) →
    q3_av fr (q3_fit tkv opv shv wyv bdv fev eav ls se aa) (f3_findExact_l4 tkv opv shv wyv bdv fev eav se aa ls n bf v).1 ∧ (∀ j, j < fr → q3_fit tkv opv shv wyv bdv fev eav ls se aa j → ¬ (f3_findExact_l4 tkv opv shv wyv bdv fev eav se aa ls n bf v).1 < 0) := by
  intro n
  induction n with
  | zero =>
    intro bf v h1 h2 h3 h4
    subst h1
    exact ⟨h3, fun j hj => h4 j (Nat.zero_le _) hj⟩
  | succ n ih =>
    intro bf v h1 h2 h3 h4
    exact ih _ _ (by omega) (by omega) (q3_bfs h3 (by omega) hf (fun z => q3_b2.mp z)) (q3_bcs h4 (by omega) (by omega) hf (fun z => q3_b2.mpr z))
/-- the way back: each place of the free ones gets another of the set -/
theorem q3_fl3 {eav : Nat → Int64} {V : Nat → Nat → Nat → Prop} (hf : fr ≤ 11)
    (hVb : ∀ n se a, V n se a → se < 2 ^ fr ∧ a < fr ∧ se.testBit a = true)
    (hV1 : ∀ n se a, V (n + 1) se a → a < fr ∧ se < 2 ^ fr ∧ (0 < n → ∃ j, j < fr ∧ q3_fit tkv opv shv wyv bdv fev eav (q3_clr se a) se a j))
    (hV2 : ∀ n se a j, V (n + 1) se a → 0 < n → j < fr → q3_fit tkv opv shv wyv bdv fev eav (q3_clr se a) se a j → V n (q3_clr se a) j) :
    ∀ (n se : Nat) (at_ : Int32) (u : Nat) (rov : Nat → Nat), u = fz + n → (0 < n → at_ = nI (cl at_) ∧ V n se (cl at_)) →
      (∀ k, k < fz → (f3_findExact_l3 tkv opv shv wyv bdv fr fev eav n se at_ u rov).2.2.2 k = rov k) ∧ (∀ k, u ≤ k → (f3_findExact_l3 tkv opv shv wyv bdv fr fev eav n se at_ u rov).2.2.2 k = rov k) ∧
      ∃ g : Nat → Nat, (∀ k, fz ≤ k → k < u → g k < fr ∧ se.testBit (g k) = true ∧ (f3_findExact_l3 tkv opv shv wyv bdv fr fev eav n se at_ u rov).2.2.2 k = fev (g k)) ∧ ∀ i j, fz ≤ i → i < u → fz ≤ j → j < u → g i = g j → i = j := by
  intro n
  induction n with
  | zero =>
    intro se at_ u rov h1 h2
    exact ⟨fun _ _ => rfl, fun _ _ => rfl, fun _ => 0, fun k hk hu => by omega, fun i j hi hu => by omega⟩
  | succ n ih =>
    intro se at_ u rov h1 h2
    obtain ⟨ha, hv⟩ := h2 (by omega)
    obtain ⟨v1, v2, v3⟩ := hV1 n se (cl at_) hv
    obtain ⟨_, _, vb⟩ := hVb _ _ _ hv
    unfold f3_findExact_l3
    have hl4 := q3_fl4 (tkv := tkv) (opv := opv) (shv := shv) (wyv := wyv) (bdv := bdv) (fev := fev) (eav := eav) (se := se) (aa := cl at_) (ls := q3_clr se (cl at_)) (fr := fr) (by omega) fr (-1) fr rfl (Nat.le_refl _) (Or.inl (by decide)) (fun j h3 h4 => by omega)
    have hnext : 0 < n → (f3_findExact_l4 tkv opv shv wyv bdv fev eav se (cl at_) (q3_clr se (cl at_)) fr (-1) fr).1 = nI (cl (f3_findExact_l4 tkv opv shv wyv bdv fev eav se (cl at_) (q3_clr se (cl at_)) fr (-1) fr).1) ∧ V n (q3_clr se (cl at_)) (cl (f3_findExact_l4 tkv opv shv wyv bdv fev eav se (cl at_) (q3_clr se (cl at_)) fr (-1) fr).1) := by
      intro hn
      obtain ⟨j, j1, j2⟩ := v3 hn
      rcases hl4.1 with z | ⟨z1, z2, z3⟩
      · exact absurd z (hl4.2 j j1 j2)
      · exact ⟨z1, hV2 n se (cl at_) _ hv hn z2 z3⟩
    obtain ⟨i1, i2, g, g1, g2⟩ := ih (q3_clr se (cl at_)) _ (u - 1) (va_up rov (u - 1) (fev (cl at_))) (by omega) hnext
    have e0 : ∀ X : Nat, (se &&& (2 ^ cl at_ ^^^ 4294967295)) = X → q3_clr se (cl at_) = X := fun X h => h
    refine ⟨fun k hk => ?_, fun k hk => ?_, fun k => if k = u - 1 then cl at_ else g k, fun k hk hu => ?_, fun i j hi1 hi2 hj1 hj2 hg => ?_⟩
    · have := i1 k hk
      rw [va_up_ne _ _ (by omega)] at this
      exact this
    · have := i2 k (by omega)
      rw [va_up_ne _ _ (by omega)] at this
      exact this
    · by_cases e : k = u - 1
      · subst e
        simp only [if_true]
        refine ⟨v1, vb, ?_⟩
        have := i2 (u - 1) (Nat.le_refl _)
        rw [va_up_self] at this
        exact this
      · simp only [if_neg e]
        obtain ⟨a1, a2, a3⟩ := g1 k hk (by omega)
        refine ⟨a1, ?_, a3⟩
        rw [bt_clr v2 (by omega) (by omega)] at a2
        simp at a2
        exact a2.1
    · have nin : ∀ k, fz ≤ k → k < u - 1 → g k ≠ cl at_ := by
        intro k hk hu z
        obtain ⟨a1, a2, a3⟩ := g1 k hk hu
        rw [bt_clr v2 (by omega) (by omega), z] at a2
        simp at a2
      by_cases e1 : i = u - 1
      · by_cases e2 : j = u - 1
        · omega
        · simp only [if_pos e1, if_neg e2] at hg
          exact absurd hg.symm (nin j hj1 (by omega))
      · by_cases e2 : j = u - 1
        · simp only [if_neg e1, if_pos e2] at hg
          exact absurd hg (nin i hi1 (by omega))
        · simp only [if_neg e1, if_neg e2] at hg
          exact g2 i j hi1 (by omega) hj1 (by omega) hg
/-- the row of an exact answer -/
theorem q3_find_row {eav : Nat → Int64} {rov : Nat → Nat} (hf : fr ≤ 11) (hsf : fr + fz = sn) (hi : q_row fz sn icv) (hfe : ∀ j, j < fr → 1 ≤ fev j ∧ fev j ≤ sn ∧ f3_isFrozen fz icv (fev j) = false) (hin : ∀ i j, i < j → j < fr → fev i < fev j)
    (hx : f3_findExact sn tkv opv shv wyv bdv fz icv fr fev eav rov = true) : q_row sn sn (f3_findExact_rov sn tkv opv shv wyv bdv fz icv fr fev eav rov) ∧ ∀ k, k < fz → f3_findExact_rov sn tkv opv shv wyv bdv fz icv fr fev eav rov k = icv k := by
  unfold f3_findExact at hx
  unfold f3_findExact_rov
  have hl1 : ∀ k, k < fz → (f3_findExact_l1 tkv opv shv wyv bdv icv fz 0 0 0 rov).2.2.2 k = icv k := fun k hk => by rw [q3_fl1, if_pos (by omega)]
  by_cases c0 : fr = 0
  · rw [if_pos c0]
    have e : fz = sn := by omega
    refine ⟨?_, hl1⟩
    rw [← e] at hi ⊢
    exact qr_ext hl1 hi
  · rw [if_neg c0] at hx ⊢
    have hT := q3_spread (tkv := tkv) (opv := opv) (shv := shv) (wyv := wyv) (bdv := bdv) (fev := fev) (icv := icv) (fz := fz) hf eav
    generalize f3_spread_eav tkv opv shv wyv bdv fz icv fr fev eav = ea at hx hT ⊢
    by_cases c1 : 0 ≤ (f3_findExact_l2 wyv bdv fev ea (2 ^ fr - 1) fr (-1) 4000000000000000000 fr).1
    · rw [if_pos c1]
      have hl2 := q3_fl2 (wyv := wyv) (bdv := bdv) (fev := fev) (eav := ea) (se := 2 ^ fr - 1) (fr := fr) (by omega) fr (-1) 4000000000000000000 fr rfl (Nat.le_refl _) (Or.inl (by decide))
      have hst : 0 < sn - fz → (f3_findExact_l2 wyv bdv fev ea (2 ^ fr - 1) fr (-1) 4000000000000000000 fr).1 = nI (cl (f3_findExact_l2 wyv bdv fev ea (2 ^ fr - 1) fr (-1) 4000000000000000000 fr).1) ∧ q3_V fr ea (sn - fz) (2 ^ fr - 1) (cl (f3_findExact_l2 wyv bdv fev ea (2 ^ fr - 1) fr (-1) 4000000000000000000 fr).1) := by
        intro _
        rcases hl2 with z | ⟨z1, z2, z3⟩
        · exact absurd z (Int32.not_lt.mpr c1)
        · refine ⟨z1, ?_⟩
          have e : sn - fz = fr := by omega
          rw [e]
          exact q3_V0 z2 z3
      obtain ⟨b1, b2, g, g1, g2⟩ := q3_fl3 (fz := fz) (V := q3_V fr ea) hf (fun n se a h => ⟨h.1, h.2.1, h.2.2.1⟩) (q3_V1 hf hT) (q3_V2 hf hT) (sn - fz) (2 ^ fr - 1) _ sn (f3_findExact_l1 tkv opv shv wyv bdv icv fz 0 0 0 rov).2.2.2 (by omega) hst
      generalize (f3_findExact_l3 tkv opv shv wyv bdv fr fev ea (sn - fz) (2 ^ fr - 1) (f3_findExact_l2 wyv bdv fev ea (2 ^ fr - 1) fr (-1) 4000000000000000000 fr).1 sn (f3_findExact_l1 tkv opv shv wyv bdv icv fz 0 0 0 rov).2.2.2).2.2.2 = row at b1 b2 g1 ⊢
      have hpre : ∀ k, k < fz → row k = icv k := fun k hk => (b1 k hk).trans (hl1 k hk)
      have nfr : ∀ a k, a < fz → fz ≤ k → k < sn → row a ≠ row k := by
        intro a k ha hk hs z
        obtain ⟨q1, _, q3⟩ := g1 k hk hs
        rw [hpre a ha, q3] at z
        have := q3_isFr.mpr ⟨a, ha, z⟩
        rw [(hfe _ q1).2.2] at this
        cases this
      have inj : ∀ i j, i < fr → j < fr → fev i = fev j → i = j := by
        intro i j hi2 hj2 z
        rcases Nat.lt_trichotomy i j with q | q | q
        · have := hin i j q hj2; omega
        · exact q
        · have := hin j i q hi2; omega
      refine ⟨⟨fun k hk => ?_, fun i j hi2 hj2 z => ?_⟩, hpre⟩
      · by_cases q : k < fz
        · rw [hpre k q]; exact hi.1 k q
        · obtain ⟨q1, _, q3⟩ := g1 k (by omega) hk
          rw [q3]; exact ⟨(hfe _ q1).1, (hfe _ q1).2.1⟩
      · by_cases qi : i < fz
        · by_cases qj : j < fz
          · rw [hpre i qi, hpre j qj] at z; exact hi.2 i j qi qj z
          · exact absurd z (nfr i j qi (by omega) hj2)
        · by_cases qj : j < fz
          · exact absurd z.symm (nfr j i qj (by omega) hi2)
          · obtain ⟨p1, _, p3⟩ := g1 i (by omega) hi2
            obtain ⟨q1, _, q3⟩ := g1 j (by omega) hj2
            rw [p3, q3] at z
            exact g2 i j (by omega) hi2 (by omega) hj2 (inj _ _ p1 q1 z)
    · rw [if_neg c1] at hx
      cases hx
end QBK

