section CEY
variable {tkv opv shv shm wyv : Nat → Int64} {bdv : Nat → Bool} {fev : Nat → Nat} {ct sta : Nat} {stc : Int64}
theorem ixc {s a t b : Nat} (ha : a < ct) (hb : b < ct) : s * ct + a = t * ct + b ↔ s = t ∧ a = b := by
  constructor
  · intro h
    rcases Nat.lt_trichotomy s t with q | q | q
    · have h1 : (s + 1) * ct ≤ t * ct := Nat.mul_le_mul_right ct q
      rw [Nat.add_mul, Nat.one_mul] at h1
      omega
    · subst q; exact ⟨rfl, by omega⟩
    · have h1 : (t + 1) * ct ≤ s * ct := Nat.mul_le_mul_right ct q
      rw [Nat.add_mul, Nat.one_mul] at h1
      omega
  · rintro ⟨h1, h2⟩; rw [h1, h2]
theorem bt_xor {s a f : Nat} (hs : s < 2 ^ f) (hf : f ≤ 32) (ha : a < f) (hb : s.testBit a = true) : s ^^^ 2 ^ a = q3_clr s a := by
  apply Nat.eq_of_testBit_eq
  intro i
  rw [Nat.testBit_xor, Nat.testBit_two_pow, bt_clr hs hf (by omega)]
  by_cases h : i = a
  · subst h; simp [hb]
  · have h2 : ¬ a = i := fun z => h z.symm
    simp [h, h2]
theorem q0_has {t k : Nat} : f0_has t k = true ↔ t.testBit k = true := by
  unfold f0_has
  rw [← bt_d]
  by_cases c : t / 2 ^ k % 2 = 1
  · simp [c]
  · simp [c]
theorem q0_lp_c {c b : Nat} {d1 d2 : Nat → Int64} (h : ∀ j, j < ct → c.testBit j = true → d1 (c * ct + j) = d2 (c * ct + j)) : ∀ (n : Nat) (le : Int64) (k : Nat), k + n = ct → f0_earliest_lp tkv opv shv wyv bdv ct fev d1 c b n le k = f0_earliest_lp tkv opv shv wyv bdv ct fev d2 c b n le k := by
  intro n
  induction n with
  | zero => intro le k _; rfl
  | succ n ih =>
    intro le k hk
    unfold f0_earliest_lp
    by_cases c1 : f0_has c k = true
    · simp only [if_pos c1]
      rw [h k (by omega) (q0_has.mp c1)]
      exact ih _ _ (by omega)
    · simp only [if_neg c1]
      exact ih _ _ (by omega)
theorem q0_earl_c {c b : Nat} {d1 d2 : Nat → Int64} (h : ∀ j, j < ct → c.testBit j = true → d1 (c * ct + j) = d2 (c * ct + j)) : f0_earliest tkv opv shv wyv bdv ct sta stc fev d1 c b = f0_earliest tkv opv shv wyv bdv ct sta stc fev d2 c b := by
  unfold f0_earliest
  rw [q0_lp_c h ct _ 0 (by omega)]
theorem q0_lpa {t : Nat} (hct : ct ≤ 11) (ht : t < 2 ^ ct) (d0 : Nat → Int64) : ∀ (n k : Nat) (dn : Nat → Int64), k + n = ct → (∀ s a, a < ct → s ≠ t → dn (s * ct + a) = d0 (s * ct + a)) → ∀ s a, a < ct → (f0_reckonSets_lpa tkv opv shv wyv bdv ct sta stc fev t n k dn).2 (s * ct + a) = if s = t ∧ k ≤ a ∧ t.testBit a = true then f0_earliest tkv opv shv wyv bdv ct sta stc fev d0 (t ^^^ 2 ^ a) (fev a) else dn (s * ct + a) := by
  intro n
  induction n with
  | zero =>
    intro k dn hk h s a ha
    rw [if_neg (by omega)]; rfl
  | succ n ih =>
    intro k dn hk h s a ha
    unfold f0_reckonSets_lpa
    by_cases c : f0_has t k = true
    · simp only [if_pos c]
      have hb := q0_has.mp c
      have hx := bt_xor ht (by omega) (show k < ct by omega) hb
      have hlt := bt_clr_lt ht (by omega) (show k < ct by omega) hb
      have he : f0_earliest tkv opv shv wyv bdv ct sta stc fev dn (t ^^^ 2 ^ k) (fev k) = f0_earliest tkv opv shv wyv bdv ct sta stc fev d0 (t ^^^ 2 ^ k) (fev k) := q0_earl_c (fun j hj _ => h _ j hj (by rw [hx]; omega))
      have h2 : ∀ s a, a < ct → s ≠ t → va_up dn (t * ct + k) (f0_earliest tkv opv shv wyv bdv ct sta stc fev dn (t ^^^ 2 ^ k) (fev k)) (s * ct + a) = d0 (s * ct + a) := by
        intro s a ha hs
        rw [va_up_ne _ _ (fun z => hs ((ixc ha (by omega)).mp z).1)]
        exact h s a ha hs
      rw [ih (k + 1) _ (by omega) h2 s a ha]
      by_cases c1 : s = t ∧ k + 1 ≤ a ∧ t.testBit a = true
      · have c2 : s = t ∧ k ≤ a ∧ t.testBit a = true := ⟨c1.1, by omega, c1.2.2⟩
        rw [if_pos c1, if_pos c2]
      · rw [if_neg c1]
        by_cases c2 : s = t ∧ a = k
        · obtain ⟨c3, c4⟩ := c2
          subst c3; subst c4
          have c5 : s = s ∧ a ≤ a ∧ s.testBit a = true := ⟨rfl, Nat.le_refl _, hb⟩
          rw [va_up_self, if_pos c5, he]
        · rw [va_up_ne _ _ (fun z => c2 ((ixc ha (by omega)).mp z))]
          have c5 : ¬ (s = t ∧ k ≤ a ∧ t.testBit a = true) := by
            intro z
            by_cases e : a = k
            · exact c2 ⟨z.1, e⟩
            · exact c1 ⟨z.1, by omega, z.2.2⟩
          rw [if_neg c5]
    · simp only [if_neg c]
      rw [ih (k + 1) dn (by omega) h s a ha]
      by_cases c1 : s = t ∧ k + 1 ≤ a ∧ t.testBit a = true
      · have c2 : s = t ∧ k ≤ a ∧ t.testBit a = true := ⟨c1.1, by omega, c1.2.2⟩
        rw [if_pos c1, if_pos c2]
      · have c5 : ¬ (s = t ∧ k ≤ a ∧ t.testBit a = true) := by
          intro z
          by_cases e : a = k
          · rw [e] at z; exact c (q0_has.mpr z.2.2)
          · exact c1 ⟨z.1, by omega, z.2.2⟩
        rw [if_neg c1, if_neg c5]
/-- the class's table when the sets below t are reckoned -/
def q0_T (tkv opv shv wyv : Nat → Int64) (bdv : Nat → Bool) (ct sta : Nat) (stc : Int64) (fev : Nat → Nat) (t : Nat) (dn : Nat → Int64) : Prop := ∀ s a, 1 ≤ s → s < t → a < ct → s.testBit a = true → dn (s * ct + a) = f0_earliest tkv opv shv wyv bdv ct sta stc fev dn (q3_clr s a) (fev a)
theorem q0_lpb (hct : ct ≤ 11) : ∀ (n t : Nat) (dn : Nat → Int64), t + n = 2 ^ ct → 1 ≤ t → q0_T tkv opv shv wyv bdv ct sta stc fev t dn → q0_T tkv opv shv wyv bdv ct sta stc fev (2 ^ ct) (f0_reckonSets_lpb tkv opv shv wyv bdv ct sta stc fev n t dn).2 := by
  intro n
  induction n with
  | zero =>
    intro t dn h1 _ h
    have e : t = 2 ^ ct := by omega
    subst e; exact h
  | succ n ih =>
    intro t dn h1 h2 h
    unfold f0_reckonSets_lpb
    refine ih (t + 1) _ (by omega) (by omega) ?_
    have hl := q0_lpa (tkv := tkv) (opv := opv) (shv := shv) (wyv := wyv) (bdv := bdv) (fev := fev) (sta := sta) (stc := stc) hct (show t < 2 ^ ct by omega) dn ct 0 dn (by omega) (fun _ _ _ _ => rfl)
    intro s a s1 s2 ha hb
    have hsl : s < 2 ^ ct := by omega
    have hclt := bt_clr_lt hsl (by omega) ha hb
    have hc : f0_earliest tkv opv shv wyv bdv ct sta stc fev (f0_reckonSets_lpa tkv opv shv wyv bdv ct sta stc fev t ct 0 dn).2 (q3_clr s a) (fev a) = f0_earliest tkv opv shv wyv bdv ct sta stc fev dn (q3_clr s a) (fev a) := by
      refine q0_earl_c (fun j hj _ => ?_)
      rw [hl _ j hj, if_neg (by omega)]
    rw [hc, hl s a ha]
    by_cases e : s = t
    · subst e
      have c5 : s = s ∧ 0 ≤ a ∧ s.testBit a = true := ⟨rfl, Nat.zero_le _, hb⟩
      rw [if_pos c5, bt_xor hsl (by omega) ha hb]
    · rw [if_neg (fun z => e z.1)]
      exact h s a s1 (by omega) ha hb
theorem q0_tab (hct : ct ≤ 11) {dl : Nat} {dnv : Nat → Int64} : q0_T tkv opv shv wyv bdv ct sta stc fev (2 ^ ct) (f0_reckonSets_dnv tkv opv shv wyv bdv ct sta stc fev dl dnv) := by
  have hp := bz_pow1 ct
  unfold f0_reckonSets_dnv
  split
  · exact q0_lpb hct _ _ _ (by omega) (Nat.le_refl _) (fun s a h1 h2 => by omega)
  · exact q0_lpb hct _ _ _ (by omega) (Nat.le_refl _) (fun s a h1 h2 => by omega)
/-- the two tables, set by set -/
theorem xr_tab (hd : xdat tkv opv shv shm wyv) (hct : ct ≤ 11) (hfe : ∀ k, k < ct → 1 ≤ fev k) {ck : Int64} (hst : xrel 1100000 stc ck) {dn ea : Nat → Int64} (hC : q0_T tkv opv shv wyv bdv ct sta stc fev (2 ^ ct) dn) (hM : q3_T tkv opv shm wyv bdv fev ct (fun a => f3_wellDone tkv opv shm wyv bdv sta (fev a) ck) (2 ^ ct) ea) :
    ∀ N s a, s < N → 1 ≤ s → s < 2 ^ ct → a < ct → s.testBit a = true → xrel 1100000 (dn (s * ct + a)) (ea (11 * s + a)) := by
  intro N
  induction N with
  | zero => intro s a h; omega
  | succ N ih =>
    intro s a h0 h1 h2 ha hb
    have hclt := bt_clr_lt h2 (by omega) ha hb
    rw [hC s a h1 h2 ha hb]
    by_cases c : q3_clr s a = 0
    · have e : s = 2 ^ a := by
        have := bt_or_clr h2 (by omega) ha hb
        rw [c, Nat.zero_or] at this
        exact this.symm
      rw [c]
      unfold f0_earliest
      rw [if_pos rfl, e, hM.2.1 a ha]
      exact xr_leg hd (hfe a ha) hst
    · unfold f0_earliest
      rw [if_neg c]
      obtain ⟨u1, u2, u3⟩ := q0_lp (tkv := tkv) (opv := opv) (shv := shv) (wyv := wyv) (bdv := bdv) (ct := ct) (t := q3_clr s a) (b := fev a) (fev := fev) (dnv := dn) ct 1000000000000000 0
      have hm := (hM.2.2 s a h2 ha hb c).1 (by omega)
      have hIH : ∀ j, j < ct → (q3_clr s a).testBit j = true → xrel 1100000 (dn (q3_clr s a * ct + j)) (ea (11 * q3_clr s a + j)) := fun j hj hbj => ih (q3_clr s a) j (by omega) (by omega) (by omega) hj hbj
      refine xr_min (ct := ct) (P := fun j => (q3_clr s a).testBit j = true) (g := fun j => f1_goodLeg tkv opv shv wyv bdv (fev j) (dn (q3_clr s a * ct + j)) (fev a)) (w := fun j => f3_wellDone tkv opv shm wyv bdv (fev j) (fev a) (ea (11 * q3_clr s a + j))) (by decide) (fun j hj hbj => xr_leg hd (hfe a ha) (hIH j hj hbj)) u1 (fun j hj hbj => u2 j (Nat.zero_le _) (by omega) hbj) ?_ (fun j hj hbj hw => ?_) ?_
      · rcases u3 with u3 | ⟨j, _, j2, j3, j4⟩
        · exact Or.inl u3
        · exact Or.inr ⟨j, by omega, j3, j4⟩
      · refine hm.2.1 j hj ?_
        obtain ⟨a1, a2⟩ := xr_ne (hIH j hj hbj) (by decide)
        by_cases z : dn (q3_clr s a * ct + j) = 1000000000000000
        · exfalso
          have e := a1.mp z
          have hw2 : f3_wellDone tkv opv shm wyv bdv (fev j) (fev a) (ea (11 * q3_clr s a + j)) < 4000000000000000000 := hw
          rw [e] at hw2
          unfold f3_wellDone at hw2
          simp at hw2
        · exact (a2 z).2.2.2
      · rcases hm.2.2 with z | ⟨i, i1, i2, i3⟩
        · exact Or.inl z
        · refine Or.inr ⟨i, i1, ?_, i3⟩
          cases hbi : (q3_clr s a).testBit i
          · have e := hM.1 (q3_clr s a) i (by omega) i1 hbi
            have i2' : ea (11 * q3_clr s a + i) < 4000000000000000000 := i2
            rw [e] at i2'
            exact absurd i2' Int64.lt_irrefl
          · rfl
/-- the first of the class's fits -/
theorem q0_ll_s {dn : Nat → Int64} {t b : Nat} {du : Int64} : ∀ n k, k + n = ct - 1 → 1 ≤ ct → ∀ p, k ≤ p → p < ct → f0_fits tkv opv shv wyv bdv ct fev dn t p b du = true → (∀ i, k ≤ i → i < p → ¬ f0_fits tkv opv shv wyv bdv ct fev dn t i b du = true) → f0_leastLast_lp tkv opv shv wyv bdv ct fev dn t b du n k = p := by
  intro n
  induction n with
  | zero =>
    intro k h1 h2 p h3 h4 h5 h6
    show k = p
    omega
  | succ n ih =>
    intro k h1 h2 p h3 h4 h5 h6
    unfold f0_leastLast_lp
    by_cases e : k = p
    · subst e; rw [if_pos h5]
    · rw [if_neg (h6 k (Nat.le_refl _) (by omega))]
      exact ih (k + 1) (by omega) h2 p (by omega) h4 h5 (fun i hi => h6 i (by omega))
theorem q0_fits {dn : Nat → Int64} {t k b : Nat} {du : Int64} : f0_fits tkv opv shv wyv bdv ct fev dn t k b du = true ↔ t.testBit k = true ∧ f1_goodLeg tkv opv shv wyv bdv (fev k) (dn (t * ct + k)) b = du := by
  unfold f0_fits
  rw [q3_b2, q0_has]
/-- the first of the reference's fits -/
theorem q3_l4c {eav : Nat → Int64} {se aa ls fr : Nat} (hf : fr ≤ 20) : ∀ (n : Nat) (bf : Int32) (v : Nat), v = n → v ≤ fr → (bf < 0 ∧ (∀ j, v ≤ j → j < fr → ¬ q3_fit tkv opv shm wyv bdv fev eav ls se aa j) ∨ ∃ p, bf = nI p ∧ v ≤ p ∧ p < fr ∧ q3_fit tkv opv shm wyv bdv fev eav ls se aa p ∧ ∀ j, v ≤ j → j < p → ¬ q3_fit tkv opv shm wyv bdv fev eav ls se aa j) →
    ((f3_findExact_l4 tkv opv shm wyv bdv fev eav se aa ls n bf v).1 < 0 ∧ (∀ j, j < fr → ¬ q3_fit tkv opv shm wyv bdv fev eav ls se aa j) ∨ ∃ p, (f3_findExact_l4 tkv opv shm wyv bdv fev eav se aa ls n bf v).1 = nI p ∧ p < fr ∧ q3_fit tkv opv shm wyv bdv fev eav ls se aa p ∧ ∀ j, j < p → ¬ q3_fit tkv opv shm wyv bdv fev eav ls se aa j) := by
  intro n
  induction n with
  | zero =>
    intro bf v h1 h2 h
    subst h1
    rcases h with ⟨a, b⟩ | ⟨p, a, b, c, d, e⟩
    · exact Or.inl ⟨a, fun j hj => b j (Nat.zero_le _) hj⟩
    · exact Or.inr ⟨p, a, c, d, fun j hj => e j (Nat.zero_le _) hj⟩
  | succ n ih =>
    intro bf v h1 h2 h
    unfold f3_findExact_l4
    refine ih _ _ (by omega) (by omega) ?_
    by_cases c : q3_fit tkv opv shm wyv bdv fev eav ls se aa (v - 1)
    · have c2 := q3_b2.mpr c
      rw [if_pos c2]
      exact Or.inr ⟨v - 1, rfl, Nat.le_refl _, by omega, c, fun j h3 h4 => by omega⟩
    · have c2 : ¬ (if ls / 2 ^ (v - 1) % 2 = 1 then (if f3_wellDone tkv opv shm wyv bdv (fev (v - 1)) (fev aa) (eav (11 * ls + (v - 1))) = eav (11 * se + aa) then true else false) else false) = true := fun z => c (q3_b2.mp z)
      rw [if_neg c2]
      rcases h with ⟨a, b⟩ | ⟨p, a, b, c3, d, e⟩
      · refine Or.inl ⟨a, fun j h3 h4 => ?_⟩
        by_cases e2 : j = v - 1
        · subst e2; exact c
        · exact b j (by omega) h4
      · refine Or.inr ⟨p, a, by omega, c3, d, fun j h3 h4 => ?_⟩
        by_cases e2 : j = v - 1
        · subst e2; exact c
        · exact e j (by omega) h4
end CEY

