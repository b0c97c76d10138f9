/-! sets of small numbers as numbers -/
theorem bt_d (s k : Nat) : s / 2 ^ k % 2 = 1 ↔ s.testBit k = true := by
  rw [Nat.testBit_eq_decide_div_mod_eq]
  simp
theorem bt_d0 (s k : Nat) : s / 2 ^ k % 2 = 0 ↔ s.testBit k = false := by
  rw [Nat.testBit_eq_decide_div_mod_eq]
  simp
theorem bt_hi {s f i : Nat} (h : s < 2 ^ f) (hi : f ≤ i) : s.testBit i = false := Nat.testBit_lt_two_pow (Nat.lt_of_lt_of_le h (Nat.pow_le_pow_right (by decide) hi))
theorem bt_m32 (i : Nat) : (4294967295 : Nat).testBit i = decide (i < 32) := by
  have h := Nat.testBit_two_pow_sub_one 32 i
  simpa using h
theorem bt_clr {s a i f : Nat} (hs : s < 2 ^ f) (hf : f ≤ 32) (ha : a < 32) : (q3_clr s a).testBit i = (s.testBit i && !decide (i = a)) := by
  unfold q3_clr
  rw [Nat.testBit_and, Nat.testBit_xor, Nat.testBit_two_pow, bt_m32]
  by_cases h1 : i < 32
  · by_cases h2 : a = i
    · subst h2; simp [h1]
    · have h3 : ¬ i = a := fun z => h2 z.symm
      simp [h1, h2, h3]
  · rw [bt_hi hs (by omega)]
    simp
theorem bt_or (t k i : Nat) : (t ||| 2 ^ k).testBit i = (t.testBit i || decide (k = i)) := by
  rw [Nat.testBit_or, Nat.testBit_two_pow]
theorem bt_clr_or {t a f : Nat} (ht : t < 2 ^ f) (hf : f ≤ 32) (ha : a < f) (hb : t.testBit a = false) : q3_clr (t ||| 2 ^ a) a = t := by
  apply Nat.eq_of_testBit_eq
  intro i
  rw [bt_clr (f := f) (bz_or_lt ht ha) hf (by omega), bt_or]
  by_cases h : i = a
  · subst h; simp [hb]
  · have h2 : ¬ a = i := fun z => h z.symm
    simp [h, h2]
theorem bt_or_clr {s a f : Nat} (hs : s < 2 ^ f) (hf : f ≤ 32) (ha : a < f) (hb : s.testBit a = true) : q3_clr s a ||| 2 ^ a = s := by
  apply Nat.eq_of_testBit_eq
  intro i
  rw [bt_or, bt_clr hs hf (by omega)]
  by_cases h : i = a
  · subst h; simp [hb]
  · have h2 : ¬ a = i := fun z => h z.symm
    simp [h, h2]
theorem bt_clr_b {s a f : Nat} (hs : s < 2 ^ f) (hf : f ≤ 32) (ha : a < 32) : (q3_clr s a).testBit a = false := by
  rw [bt_clr hs hf ha]; simp
theorem bt_clr_lt {s a f : Nat} (hs : s < 2 ^ f) (hf : f ≤ 32) (ha : a < f) (hb : s.testBit a = true) : q3_clr s a < s := by
  rcases Nat.lt_or_ge (q3_clr s a) s with h | h
  · exact h
  · have h2 : q3_clr s a = s := Nat.le_antisymm (q3_clr_le s a) h
    have h3 := bt_clr_b (s := s) (a := a) hs hf (by omega)
    rw [h2, hb] at h3
    cases h3
theorem bt_or_gt {t k : Nat} (hb : t.testBit k = false) : t < t ||| 2 ^ k := by
  rcases Nat.lt_or_ge t (t ||| 2 ^ k) with h | h
  · exact h
  · have h2 : t ||| 2 ^ k = t := Nat.le_antisymm h Nat.left_le_or
    have h3 := bt_or t k k
    rw [h2, hb] at h3
    simp at h3
/-- how many there are -/
def pcn : Nat → Nat → Nat
  | 0, _ => 0
  | f + 1, s => pcn f s + (if s.testBit f then 1 else 0)
theorem pcn_congr {s t : Nat} : ∀ f, (∀ i, i < f → s.testBit i = t.testBit i) → pcn f s = pcn f t := by
  intro f
  induction f with
  | zero => intro _; rfl
  | succ f ih =>
    intro h
    unfold pcn
    rw [ih (fun i hi => h i (by omega)), h f (by omega)]
theorem pcn_full (f : Nat) : ∀ g, g ≤ f → pcn g (2 ^ f - 1) = g := by
  intro g
  induction g with
  | zero => intro _; rfl
  | succ g ih =>
    intro h
    unfold pcn
    rw [ih (by omega), Nat.testBit_two_pow_sub_one]
    simp
    omega
theorem pcn_clr {s a g : Nat} (hs : s < 2 ^ g) (hg : g ≤ 32) (ha : a < g) (hb : s.testBit a = true) : ∀ f, pcn f (q3_clr s a) + (if a < f then 1 else 0) = pcn f s := by
  intro f
  induction f with
  | zero => rfl
  | succ f ih =>
    unfold pcn
    rw [bt_clr hs hg (by omega)]
    by_cases h : f = a
    · subst h
      have h1 : ¬ f < f := by omega
      have h2 : f < f + 1 := by omega
      rw [if_neg h1] at ih
      rw [if_pos h2]
      simp [hb]
      omega
    · by_cases h3 : a < f
      · rw [if_pos h3] at ih
        rw [if_pos (show a < f + 1 by omega)]
        simp [h]
        omega
      · rw [if_neg h3] at ih
        rw [if_neg (show ¬ a < f + 1 by omega)]
        simp [h]
        omega
theorem pcn_zero {s f : Nat} (hs : s < 2 ^ f) (h : pcn f s = 0) : s = 0 := by
  have key : ∀ g, g ≤ f → pcn g s = 0 → ∀ i, i < g → s.testBit i = false := by
    intro g
    induction g with
    | zero => intro _ _ i hi; omega
    | succ g ih =>
      intro hg hp i hi
      unfold pcn at hp
      by_cases e : i = g
      · subst e
        cases hb : s.testBit i
        · rfl
        · simp [hb] at hp
      · exact ih (by omega) (by omega) i (by omega)
  apply Nat.eq_of_testBit_eq
  intro i
  rw [Nat.zero_testBit]
  rcases Nat.lt_or_ge i f with h2 | h2
  · exact key f (Nat.le_refl _) h i h2
  · exact bt_hi hs h2
theorem pcn_pos {s f i : Nat} (hi : i < f) (hb : s.testBit i = true) : 0 < pcn f s := by
  induction f with
  | zero => omega
  | succ f ih =>
    unfold pcn
    by_cases e : i = f
    · subst e; simp [hb]
    · have := ih (by omega); omega
theorem pcn_ex {s f : Nat} (h : 0 < pcn f s) : ∃ i, i < f ∧ s.testBit i = true := by
  induction f with
  | zero => simp [pcn] at h
  | succ f ih =>
    unfold pcn at h
    cases hb : s.testBit f
    · simp [hb] at h
      obtain ⟨i, h1, h2⟩ := ih h
      exact ⟨i, by omega, h2⟩
    · exact ⟨f, by omega, hb⟩

/-! the table of earliest times, as the reference makes it -/
theorem i64_le {x y : Int64} : x ≤ y ↔ x.toInt ≤ y.toInt := Int64.le_iff_toInt_le
theorem i64_lt {x y : Int64} : x < y ↔ x.toInt < y.toInt := Int64.lt_iff_toInt_lt
section Q3DP
variable {tkv opv shv wyv : Nat → Int64} {bdv : Nat → Bool} {fev icv : Nat → Nat} {fr fz : Nat}
theorem ix_inj {s a t b : Nat} (ha : a < 11) (hb : b < 11) : 11 * s + a = 11 * t + b ↔ s = t ∧ a = b := by omega
/-- what one set and one last stop of it tell of the sets with one more -/
theorem q3_l6 {t j : Nat} {tt : Int64} (hf : fr ≤ 11) : ∀ (n k : Nat) (eav : Nat → Int64), k + n = fr → ∀ s a, a < fr → (f3_spread_l6 tkv opv shv wyv bdv fev t j tt n k eav).2 (11 * s + a) =
    if tt < 4000000000000000000 ∧ k ≤ a ∧ t.testBit a = false ∧ s = t ||| 2 ^ a then (if eav (11 * s + a) ≤ f3_wellDone tkv opv shv wyv bdv (fev j) (fev a) tt then eav (11 * s + a) else f3_wellDone tkv opv shv wyv bdv (fev j) (fev a) tt) else eav (11 * s + a) := by
  intro n
  induction n with
  | zero =>
    intro k eav hk s a ha
    rw [if_neg (by omega)]
    rfl
  | succ n ih =>
    intro k eav hk s a ha
    unfold f3_spread_l6
    by_cases h0 : (4000000000000000000 : Int64) ≤ tt
    · rw [if_pos h0]
      have h1 : ¬ tt < 4000000000000000000 := Int64.not_lt.mpr h0
      rw [if_neg (fun z => h1 z.1)]
    · rw [if_neg h0, ih _ _ (by omega) s a ha]
      have h1 : tt < 4000000000000000000 := Int64.not_le.mp h0
      by_cases hb : t / 2 ^ k % 2 = 0
      · rw [if_pos hb]
        by_cases hx : 11 * s + a = 11 * (t ||| 2 ^ k) + k
        · obtain ⟨hs, hak⟩ := (ix_inj (by omega) (by omega)).mp hx
          subst hak
          have h2 : ¬ (tt < 4000000000000000000 ∧ a + 1 ≤ a ∧ t.testBit a = false ∧ s = t ||| 2 ^ a) := by omega
          have q2 : tt < 4000000000000000000 ∧ a ≤ a ∧ t.testBit a = false ∧ s = t ||| 2 ^ a := ⟨h1, Nat.le_refl _, (bt_d0 _ _).mp hb, hs⟩
          rw [if_neg h2, if_pos q2, hx, va_up_self]
        · rw [va_up_ne _ _ hx]
          by_cases h2 : t.testBit a = false ∧ s = t ||| 2 ^ a
          · have h3 : a ≠ k := fun z => hx (by rw [h2.2, z])
            by_cases h4 : k + 1 ≤ a
            · have q1 : tt < 4000000000000000000 ∧ k + 1 ≤ a ∧ t.testBit a = false ∧ s = t ||| 2 ^ a := ⟨h1, h4, h2⟩
              have q2 : tt < 4000000000000000000 ∧ k ≤ a ∧ t.testBit a = false ∧ s = t ||| 2 ^ a := ⟨h1, by omega, h2⟩
              rw [if_pos q1, if_pos q2]
            · rw [if_neg (fun z => h4 z.2.1), if_neg (fun z => by have := z.2.1; omega)]
          · rw [if_neg (fun z => h2 z.2.2), if_neg (fun z => h2 z.2.2)]
      · rw [if_neg hb]
        by_cases h2 : t.testBit a = false ∧ s = t ||| 2 ^ a
        · have h3 : a ≠ k := fun z => hb ((bt_d0 _ _).mpr (z ▸ h2.1))
          by_cases h4 : k + 1 ≤ a
          · have q1 : tt < 4000000000000000000 ∧ k + 1 ≤ a ∧ t.testBit a = false ∧ s = t ||| 2 ^ a := ⟨h1, h4, h2⟩
            have q2 : tt < 4000000000000000000 ∧ k ≤ a ∧ t.testBit a = false ∧ s = t ||| 2 ^ a := ⟨h1, by omega, h2⟩
            rw [if_pos q1, if_pos q2]
          · rw [if_neg (fun z => h4 z.2.1), if_neg (fun z => by have := z.2.1; omega)]
        · rw [if_neg (fun z => h2 z.2.2), if_neg (fun z => h2 z.2.2)]
/-- a time is the least of those that the first so many tell -/
def q3_min (tkv opv shv wyv : Nat → Int64) (bdv : Nat → Bool) (fev : Nat → Nat) (m : Nat) (f : Nat → Int64) (a : Nat) (v : Int64) : Prop :=
  v ≤ 4000000000000000000 ∧ (∀ i, i < m → f i < 4000000000000000000 → v ≤ f3_wellDone tkv opv shv wyv bdv (fev i) (fev a) (f i)) ∧ (v = 4000000000000000000 ∨ ∃ i, i < m ∧ f i < 4000000000000000000 ∧ v = f3_wellDone tkv opv shv wyv bdv (fev i) (fev a) (f i))
theorem q3_min_c {m a : Nat} {f g : Nat → Int64} {v : Int64} (e : ∀ i, i < m → g i = f i) (h : q3_min tkv opv shv wyv bdv fev m f a v) : q3_min tkv opv shv wyv bdv fev m g a v := by
  refine ⟨h.1, fun i hi hf => ?_, h.2.2.imp id (fun ⟨i, a1, a2, a3⟩ => ⟨i, a1, ?_, ?_⟩)⟩
  · rw [e i hi] at hf ⊢
    exact h.2.1 i hi hf
  · rw [e i a1]; exact a2
  · rw [e i a1]; exact a3
theorem q3_min_s {m a : Nat} {f : Nat → Int64} {v : Int64} (h : q3_min tkv opv shv wyv bdv fev m f a v) : q3_min tkv opv shv wyv bdv fev (m + 1) f a (if f m < 4000000000000000000 then (if v ≤ f3_wellDone tkv opv shv wyv bdv (fev m) (fev a) (f m) then v else f3_wellDone tkv opv shv wyv bdv (fev m) (fev a) (f m)) else v) := by
  obtain ⟨h1, h2, h3⟩ := h
  by_cases c1 : f m < 4000000000000000000
  · rw [if_pos c1]
    by_cases c2 : v ≤ f3_wellDone tkv opv shv wyv bdv (fev m) (fev a) (f m)
    · rw [if_pos c2]
      refine ⟨h1, fun i hi hf => ?_, h3.imp id (fun ⟨i, a1, a2⟩ => ⟨i, by omega, a2⟩)⟩
      by_cases e : i = m
      · subst e; exact c2
      · exact h2 i (by omega) hf
    · rw [if_neg c2]
      have c3 := Int64.not_le.mp c2
      refine ⟨Int64.le_trans (Int64.le_of_lt c3) h1, fun i hi hf => ?_, Or.inr ⟨m, by omega, c1, rfl⟩⟩
      by_cases e : i = m
      · subst e; exact Int64.le_refl _
      · exact Int64.le_trans (Int64.le_of_lt c3) (h2 i (by omega) hf)
  · rw [if_neg c1]
    refine ⟨h1, fun i hi hf => ?_, h3.imp id (fun ⟨i, a1, a2⟩ => ⟨i, by omega, a2⟩)⟩
    by_cases e : i = m
    · subst e; exact absurd hf c1
    · exact h2 i (by omega) hf
theorem q3_l5 {t : Nat} (hf : fr ≤ 11) (ht : t < 2 ^ fr) (e0 : Nat → Int64) : ∀ (n j : Nat) (eav : Nat → Int64), j + n = fr →
    (∀ s a, a < fr → ¬ (t.testBit a = false ∧ s = t ||| 2 ^ a) → eav (11 * s + a) = e0 (11 * s + a)) →
    (∀ a, a < fr → t.testBit a = false → q3_min tkv opv shv wyv bdv fev j (fun i => e0 (11 * t + i)) a (eav (11 * (t ||| 2 ^ a) + a))) →
    (∀ s a, a < fr → ¬ (t.testBit a = false ∧ s = t ||| 2 ^ a) → (f3_spread_l5 tkv opv shv wyv bdv fr fev t n j eav).2 (11 * s + a) = e0 (11 * s + a)) ∧
    (∀ a, a < fr → t.testBit a = false → q3_min tkv opv shv wyv bdv fev fr (fun i => e0 (11 * t + i)) a ((f3_spread_l5 tkv opv shv wyv bdv fr fev t n j eav).2 (11 * (t ||| 2 ^ a) + a))) := by
  intro n
  induction n with
  | zero =>
    intro j eav hj h1 h2
    have e : j = fr := by omega
    subst e
    exact ⟨h1, h2⟩
  | succ n ih =>
    intro j eav hj h1 h2
    unfold f3_spread_l5
    have htj : eav (11 * t + j) = e0 (11 * t + j) := by
      refine h1 t j (by omega) (fun z => ?_)
      have := bt_or_gt z.1
      omega
    refine ih (j + 1) _ (by omega) (fun s a ha hn => ?_) (fun a ha hb => ?_)
    · rw [q3_l6 hf _ _ _ (by omega) s a ha, if_neg (fun z => hn z.2.2)]
      exact h1 s a ha hn
    · rw [q3_l6 hf _ _ _ (by omega) _ a ha, htj]
      have h3 := q3_min_s (h2 a ha hb)
      by_cases c : e0 (11 * t + j) < 4000000000000000000
      · rw [if_pos ⟨c, Nat.zero_le _, hb, rfl⟩]
        simp only [if_pos c] at h3
        exact h3
      · rw [if_neg (fun z => c z.1)]
        simp only [if_neg c] at h3
        exact h3
theorem q3_l2 : ∀ (n k : Nat) (eav : Nat → Int64) (x : Nat), (f3_spread_l2 n k eav).2 x = if k ≤ x ∧ x < k + n then 4000000000000000000 else eav x := by
  intro n
  induction n with
  | zero =>
    intro k eav x
    rw [if_neg (by omega)]; rfl
  | succ n ih =>
    intro k eav x
    show (f3_spread_l2 n (k + 1) (va_up eav k 4000000000000000000)).2 x = _
    rw [ih]
    by_cases h1 : k + 1 ≤ x ∧ x < k + 1 + n
    · rw [if_pos h1, if_pos (by omega)]
    · rw [if_neg h1]
      by_cases h2 : x = k
      · subst h2; rw [if_pos (by omega), va_up_self]
      · rw [if_neg (by omega), va_up_ne _ _ h2]
theorem q3_l3 {ck : Int64} {la : Nat} (hf : fr ≤ 11) : ∀ (n k : Nat) (eav : Nat → Int64), k + n = fr → ∀ s a, a < fr → (f3_spread_l3 tkv opv shv wyv bdv fev ck la n k eav).2 (11 * s + a) = if k ≤ a ∧ s = 2 ^ a then f3_wellDone tkv opv shv wyv bdv la (fev a) ck else eav (11 * s + a) := by
  intro n
  induction n with
  | zero =>
    intro k eav hk s a ha
    rw [if_neg (by omega)]; rfl
  | succ n ih =>
    intro k eav hk s a ha
    show (f3_spread_l3 tkv opv shv wyv bdv fev ck la n (k + 1) (va_up eav (11 * 2 ^ k + k) (f3_wellDone tkv opv shv wyv bdv la (fev k) ck))).2 (11 * s + a) = _
    rw [ih _ _ (by omega) s a ha]
    by_cases h1 : k + 1 ≤ a ∧ s = 2 ^ a
    · have h2 : k ≤ a ∧ s = 2 ^ a := ⟨by omega, h1.2⟩
      rw [if_pos h1, if_pos h2]
    · rw [if_neg h1]
      by_cases hx : 11 * s + a = 11 * 2 ^ k + k
      · obtain ⟨hs, hak⟩ := (ix_inj (by omega) (by omega)).mp hx
        subst hak
        have h2 : a ≤ a ∧ s = 2 ^ a := ⟨Nat.le_refl _, hs⟩
        rw [if_pos h2, hx, va_up_self]
      · rw [va_up_ne _ _ hx]
        have h2 : ¬ (k ≤ a ∧ s = 2 ^ a) := by
          intro z
          by_cases e : a = k
          · subst e; exact hx (by rw [z.2])
          · exact h1 ⟨by omega, z.2⟩
        rw [if_neg h2]
/-- the table when the sets below t have told what they know -/
def q3_T (tkv opv shv wyv : Nat → Int64) (bdv : Nat → Bool) (fev : Nat → Nat) (fr : Nat) (base : Nat → Int64) (t : Nat) (ea : Nat → Int64) : Prop :=
  (∀ s a, s < 2 ^ fr → a < fr → s.testBit a = false → ea (11 * s + a) = 4000000000000000000) ∧ (∀ a, a < fr → ea (11 * 2 ^ a + a) = base a) ∧
  (∀ s a, s < 2 ^ fr → a < fr → s.testBit a = true → q3_clr s a ≠ 0 → (q3_clr s a < t → q3_min tkv opv shv wyv bdv fev fr (fun i => ea (11 * q3_clr s a + i)) a (ea (11 * s + a))) ∧ (t ≤ q3_clr s a → ea (11 * s + a) = 4000000000000000000))
theorem q3_T_s {base : Nat → Int64} {t : Nat} {ea : Nat → Int64} (hf : fr ≤ 11) (ht : t < 2 ^ fr) (ht0 : 1 ≤ t) (h : q3_T tkv opv shv wyv bdv fev fr base t ea) : q3_T tkv opv shv wyv bdv fev fr base (t + 1) (f3_spread_l5 tkv opv shv wyv bdv fr fev t fr 0 ea).2 := by
  obtain ⟨hA, hB, hC⟩ := h
  have h0 : ∀ a, a < fr → t.testBit a = false → q3_min tkv opv shv wyv bdv fev 0 (fun i => ea (11 * t + i)) a (ea (11 * (t ||| 2 ^ a) + a)) := by
    intro a ha hb
    have h1 := bt_clr_or ht (by omega) ha hb
    have h2 := (hC (t ||| 2 ^ a) a (bz_or_lt ht ha) ha (by rw [bt_or]; simp) (by rw [h1]; omega)).2 (by rw [h1]; exact Nat.le_refl _)
    rw [h2]
    exact ⟨Int64.le_refl _, fun i hi => by omega, Or.inl rfl⟩
  obtain ⟨k1, k2⟩ := q3_l5 hf ht ea fr 0 ea (by omega) (fun _ _ _ _ => rfl) h0
  generalize (f3_spread_l5 tkv opv shv wyv bdv fr fev t fr 0 ea).2 = eb at k1 k2 ⊢
  have kt : ∀ c i, c ≤ t → i < fr → eb (11 * c + i) = ea (11 * c + i) := by
    intro c i hc hi
    refine k1 c i hi (fun z => ?_)
    have := bt_or_gt z.1
    omega
  refine ⟨fun s a hs ha hb => ?_, fun a ha => ?_, fun s a hs ha hb hc => ?_⟩
  · rw [k1 s a ha (fun z => by rw [z.2, bt_or] at hb; simp at hb)]
    exact hA s a hs ha hb
  · rw [k1 _ a ha (fun z => ?_)]
    · exact hB a ha
    · have h1 := bt_clr_or ht (by omega) ha z.1
      rw [← z.2] at h1
      have h2 := bt_clr_or (t := 0) (a := a) (f := fr) (Nat.pow_pos (by decide)) (by omega) ha (by simp)
      rw [Nat.zero_or] at h2
      omega
  · have hoc := bt_or_clr hs (by omega) ha hb
    have hcb := bt_clr_b (s := s) (a := a) hs (by omega) (by omega)
    obtain ⟨c1, c2⟩ := hC s a hs ha hb hc
    generalize hce : q3_clr s a = c at hoc hcb c1 c2 hc ⊢
    have hun : c ≠ t → eb (11 * s + a) = ea (11 * s + a) := by
      intro hne
      refine k1 s a ha (fun z => hne ?_)
      rw [← hce, z.2]
      exact bt_clr_or ht (by omega) ha z.1
    refine ⟨fun hlt => ?_, fun hge => ?_⟩
    · by_cases e : c = t
      · subst e
        have h5 := k2 a ha hcb
        rw [hoc] at h5
        exact q3_min_c (fun i hi => kt c i (Nat.le_refl _) hi) h5
      · have h5 := c1 (by omega)
        rw [hun e]
        exact q3_min_c (fun i hi => kt c i (by omega) hi) h5
    · rw [hun (by omega)]
      exact c2 (by omega)
theorem q3_l4 {base : Nat → Int64} (hf : fr ≤ 11) : ∀ (n t : Nat) (ea : Nat → Int64), t + n = 2 ^ fr → 1 ≤ t → q3_T tkv opv shv wyv bdv fev fr base t ea → q3_T tkv opv shv wyv bdv fev fr base (2 ^ fr) (f3_spread_l4 tkv opv shv wyv bdv fr fev n t ea).2 := by
  intro n
  induction n with
  | zero =>
    intro t ea ht h1 h
    have e : t = 2 ^ fr := by omega
    subst e
    exact h
  | succ n ih =>
    intro t ea ht h1 h
    exact ih (t + 1) _ (by omega) (by omega) (q3_T_s hf (by omega) h1 h)
/-- the reference's table: what it holds in the end -/
theorem q3_spread (hf : fr ≤ 11) (eav : Nat → Int64) : q3_T tkv opv shv wyv bdv fev fr (fun a => f3_wellDone tkv opv shv wyv bdv (f3_spread_l1 tkv opv shv wyv bdv icv fz 0 0 0).2.1 (fev a) (f3_spread_l1 tkv opv shv wyv bdv icv fz 0 0 0).1) (2 ^ fr) (f3_spread_eav tkv opv shv wyv bdv fz icv fr fev eav) := by
  have hp := bz_pow1 fr
  unfold f3_spread_eav
  refine q3_l4 hf _ _ _ (by omega) (Nat.le_refl _) ⟨fun s a hs ha hb => ?_, fun a ha => ?_, fun s a hs ha hb hc => ⟨fun z => by omega, fun _ => ?_⟩⟩
  · rw [q3_l3 hf _ _ _ (by omega) s a ha, if_neg, q3_l2, if_pos]
    · omega
    · intro z
      rw [z.2, Nat.testBit_two_pow] at hb
      simp at hb
  · rw [q3_l3 hf _ _ _ (by omega) _ a ha, if_pos ⟨Nat.zero_le _, rfl⟩]
  · rw [q3_l3 hf _ _ _ (by omega) s a ha, if_neg, q3_l2, if_pos]
    · omega
    · intro z
      apply hc
      have h2 := bt_clr_or (t := 0) (a := a) (f := fr) (Nat.pow_pos (by decide)) (by omega) ha (by simp)
      rw [Nat.zero_or] at h2
      rw [z.2]
      exact h2
/-- the way back through the table never comes to an end too soon -/
def q3_V (fr : Nat) (ea : Nat → Int64) (n se a : Nat) : Prop := se < 2 ^ fr ∧ a < fr ∧ se.testBit a = true ∧ pcn fr se = n ∧ ea (11 * se + a) ≠ 4000000000000000000
theorem q3_V0 {ea : Nat → Int64} {a : Nat} (ha : a < fr) (h : f3_wellHome wyv bdv (fev a) (ea (11 * (2 ^ fr - 1) + a)) < 4000000000000000000) : q3_V fr ea fr (2 ^ fr - 1) a := by
  have hp := bz_pow1 fr
  refine ⟨by omega, ha, ?_, pcn_full fr fr (Nat.le_refl _), fun z => ?_⟩
  · rw [Nat.testBit_two_pow_sub_one]; simp [ha]
  · rw [z] at h
    unfold f3_wellHome at h
    simp at h
theorem q3_V1 {base : Nat → Int64} {ea : Nat → Int64} (hf : fr ≤ 11) (hT : q3_T tkv opv shv wyv bdv fev fr base (2 ^ fr) ea) : ∀ n se a, q3_V fr ea (n + 1) se a → a < fr ∧ se < 2 ^ fr ∧ (0 < n → ∃ j, j < fr ∧ q3_fit tkv opv shv wyv bdv fev ea (q3_clr se a) se a j) := by
  intro n se a h
  obtain ⟨h1, h2, h3, h4, h5⟩ := h
  refine ⟨h2, h1, fun hn => ?_⟩
  have hlt := bt_clr_lt h1 (by omega) h2 h3
  have hp := pcn_clr h1 (by omega) h2 h3 fr
  rw [if_pos h2, h4] at hp
  have hne : q3_clr se a ≠ 0 := by
    intro z
    rw [z] at hp
    have : pcn fr 0 = 0 := by
      have key : ∀ g, pcn g 0 = 0 := by
        intro g
        induction g with
        | zero => rfl
        | succ g ih => unfold pcn; rw [ih]; simp
      exact key fr
    omega
  have hm := (hT.2.2 se a h1 h2 h3 hne).1 (by omega)
  rcases hm.2.2 with z | ⟨i, i1, i2, i3⟩
  · exact absurd z h5
  · refine ⟨i, i1, ?_, i3.symm⟩
    rw [bt_d]
    cases hb : (q3_clr se a).testBit i
    · have := hT.1 (q3_clr se a) i (by omega) i1 hb
      have i2' : ea (11 * q3_clr se a + i) < 4000000000000000000 := i2
      rw [this] at i2'
      exact absurd i2' (Int64.lt_irrefl)
    · rfl
theorem q3_V2 {base : Nat → Int64} {ea : Nat → Int64} (hf : fr ≤ 11) (hT : q3_T tkv opv shv wyv bdv fev fr base (2 ^ fr) ea) : ∀ n se a j, q3_V fr ea (n + 1) se a → 0 < n → j < fr → q3_fit tkv opv shv wyv bdv fev ea (q3_clr se a) se a j → q3_V fr ea n (q3_clr se a) j := by
  intro n se a j h hn hj hfit
  obtain ⟨h1, h2, h3, h4, h5⟩ := h
  have hlt := bt_clr_lt h1 (by omega) h2 h3
  have hp := pcn_clr h1 (by omega) h2 h3 fr
  rw [if_pos h2, h4] at hp
  refine ⟨by omega, hj, (bt_d _ _).mp hfit.1, by omega, fun z => ?_⟩
  have h6 := hfit.2
  rw [z] at h6
  apply h5
  rw [← h6]
  unfold f3_wellDone
  simp
end Q3DP

