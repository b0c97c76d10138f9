/-! the exact search: class and reference side by side -/
def bnd (B : Nat) (x : Int64) : Prop := ∃ n : Nat, n ≤ B ∧ x = lN n
theorem bnd_ne {B N : Nat} {x : Int64} (h : bnd B x) (hB : B < N) (hN : N < 2 ^ 63) : x ≠ lN N := by
  obtain ⟨n, h1, h2⟩ := h
  intro z
  rw [h2, pk_lEQ (by omega) hN] at z
  omega
theorem bnd_lt {B N : Nat} {x : Int64} (h : bnd B x) (hB : B < N) (hN : N < 2 ^ 63) : x < lN N := by
  obtain ⟨n, h1, h2⟩ := h
  rw [h2, pk_lLT (by omega) hN]
  omega
theorem bnd_mono {B B2 : Nat} {x : Int64} (h : bnd B x) (hB : B ≤ B2) : bnd B2 x := by
  obtain ⟨n, h1, h2⟩ := h
  exact ⟨n, by omega, h2⟩
theorem bnd_add {B B2 : Nat} {x y : Int64} (h : bnd B x) (h2 : bnd B2 y) : bnd (B + B2) (x + y) := by
  obtain ⟨n, h1, e1⟩ := h
  obtain ⟨m, h3, e2⟩ := h2
  exact ⟨n + m, by omega, by rw [e1, e2, lN_add]⟩
theorem bnd_of_le {B B2 : Nat} {x y : Int64} (h : bnd B x) (h2 : bnd B2 y) (hB : B < 2 ^ 62) (hB2 : B2 < 2 ^ 62) (hl : x ≤ y) : bnd B2 x := by
  obtain ⟨n, h1, e1⟩ := h
  obtain ⟨m, h3, e2⟩ := h2
  rw [e1, e2, pk_lLE (by omega) (by omega)] at hl
  exact ⟨n, by omega, e1⟩
theorem i64_NC : (1000000000000000 : Int64) = lN 1000000000000000 := by decide
theorem i64_NM : (4000000000000000000 : Int64) = lN 4000000000000000000 := by decide
/-- the same time, or never in both -/
def xrel (B : Nat) (x y : Int64) : Prop := (x = 1000000000000000 ∧ y = 4000000000000000000) ∨ (x = y ∧ bnd B x)
theorem xr_ne {B : Nat} {x y : Int64} (h : xrel B x y) (hB : B < 1000000000000000) : (x = 1000000000000000 ↔ y = 4000000000000000000) ∧ (x ≠ 1000000000000000 → x = y ∧ bnd B x ∧ x < 1000000000000000 ∧ y < 4000000000000000000) := by
  rcases h with ⟨h1, h2⟩ | ⟨h1, h2⟩
  · exact ⟨⟨fun _ => h2, fun _ => h1⟩, fun z => absurd h1 z⟩
  · have n1 : x ≠ 1000000000000000 := by rw [i64_NC]; exact bnd_ne h2 hB (by decide)
    have n2 : y ≠ 4000000000000000000 := by rw [i64_NM, ← h1]; exact bnd_ne h2 (by omega) (by decide)
    refine ⟨⟨fun z => absurd z n1, fun z => absurd z n2⟩, fun _ => ⟨h1, h2, ?_, ?_⟩⟩
    · rw [i64_NC]; exact bnd_lt h2 hB (by decide)
    · rw [i64_NM, ← h1]; exact bnd_lt h2 (by omega) (by decide)
/-- two legs with the same due -/
theorem xr_eq {B : Nat} {x y d e : Int64} (h : xrel B x y) (h2 : xrel B d e) (hB : B < 1000000000000000) : x = d ↔ y = e := by
  obtain ⟨a1, a2⟩ := xr_ne h hB
  obtain ⟨b1, b2⟩ := xr_ne h2 hB
  by_cases c : x = 1000000000000000
  · constructor
    · intro z; rw [a1.mp c, b1.mp (z ▸ c)]
    · intro z; rw [c, b1.mpr (z ▸ a1.mp c)]
  · by_cases c2 : d = 1000000000000000
    · constructor
      · intro z; exact absurd (z.trans c2) c
      · intro z; exact absurd (a1.mpr (z.trans (b1.mp c2))) c
    · rw [(a2 c).1, (b2 c2).1]
section CEX
variable {tkv opv shv shm wyv : Nat → Int64} {bdv : Nat → Bool}
/-- what the numbers of stops and ways are -/
def xdat (tkv opv shv shm wyv : Nat → Int64) : Prop := (∀ i, bnd 100000 (tkv i)) ∧ (∀ i, bnd 1000000 (opv i)) ∧ (∀ i, bnd 1000000 (shm i)) ∧ (∀ i, 1 ≤ i → shv i = shm i) ∧ (∀ i, bnd 100000 (wyv i)) ∧ tkv 0 = 0 ∧ opv 0 = 0 ∧ shv 0 = 1000000000000000
theorem xr_leg (hd : xdat tkv opv shv shm wyv) {a b : Nat} {t t2 : Int64} (hb : 1 ≤ b) (h : xrel 1100000 t t2) : xrel 1100000 (f1_goodLeg tkv opv shv wyv bdv a t b) (f3_wellDone tkv opv shm wyv bdv a b t2) := by
  obtain ⟨d1, d2, d3, d4, d5, d6, d7, d8⟩ := hd
  obtain ⟨a1, a2⟩ := xr_ne h (by decide)
  unfold f1_goodLeg f3_wellDone
  by_cases c : t = 1000000000000000
  · rw [if_pos c, if_pos (a1.mp c)]; exact Or.inl ⟨rfl, rfl⟩
  · obtain ⟨e, hbd, _, _⟩ := a2 c
    have c2 : ¬ t2 = 4000000000000000000 := fun z => c (a1.mpr z)
    rw [if_neg c, if_neg c2, Nat.mul_comm a 21, ← e]
    by_cases c3 : bdv (21 * a + b) = true
    · rw [if_pos c3, if_pos c3]; exact Or.inl ⟨rfl, rfl⟩
    · rw [if_neg c3, if_neg c3, d4 b hb]
      by_cases c4 : t + wyv (21 * a + b) ≤ shm b
      · rw [if_pos c4, if_pos c4, ce_done]
        right
        refine ⟨rfl, ?_⟩
        have hv := bnd_of_le (bnd_add hbd (d5 (21 * a + b))) (d3 b) (by decide) (by decide) c4
        have hm : bnd 1000000 (if opv b ≤ t + wyv (21 * a + b) then t + wyv (21 * a + b) else opv b) := by
          split
          · exact hv
          · exact d2 b
        exact bnd_add hm (d1 b)
      · rw [if_neg c4, if_neg c4]; exact Or.inl ⟨rfl, rfl⟩
theorem xr_home (hd : xdat tkv opv shv shm wyv) {a : Nat} {t t2 : Int64} (h : xrel 1100000 t t2) : xrel 1200000 (f1_goodLeg tkv opv shv wyv bdv a t 0) (f3_wellHome wyv bdv a t2) := by
  obtain ⟨d1, d2, d3, d4, d5, d6, d7, d8⟩ := hd
  obtain ⟨a1, a2⟩ := xr_ne h (by decide)
  unfold f1_goodLeg f3_wellHome
  by_cases c : t = 1000000000000000
  · rw [if_pos c, if_pos (a1.mp c)]; exact Or.inl ⟨rfl, rfl⟩
  · obtain ⟨e, hbd, _, _⟩ := a2 c
    have c2 : ¬ t2 = 4000000000000000000 := fun z => c (a1.mpr z)
    rw [if_neg c, if_neg c2, Nat.mul_comm a 21, Nat.add_zero, ← e]
    by_cases c3 : bdv (21 * a) = true
    · rw [if_pos c3, if_pos c3]; exact Or.inl ⟨rfl, rfl⟩
    · rw [if_neg c3, if_neg c3, d8]
      have hv := bnd_add hbd (d5 (21 * a))
      have c4 : t + wyv (21 * a) ≤ 1000000000000000 := by rw [i64_NC]; exact Int64.le_of_lt (bnd_lt hv (by decide) (by decide))
      rw [if_pos c4, ce_done, d6, d7, Int64.add_zero]
      have c5 : (0 : Int64) ≤ t + wyv (21 * a) := by
        obtain ⟨n, h1, h2⟩ := hv
        rw [h2, show (0 : Int64) = lN 0 from rfl, pk_lLE (by decide) (by omega)]
        omega
      rw [if_pos c5]
      exact Or.inr ⟨rfl, hv⟩
/-- the frozen beginning -/
theorem xr_ff (hd : xdat tkv opv shv shm wyv) {rov icv : Nat → Nat} {z : Nat} (he : ∀ i, i < z → rov i = icv i ∧ 1 ≤ icv i) : ∀ (n k la : Nat) (stc ck : Int64), k + n = z → xrel 1100000 stc ck → xrel 1100000 (f0_followFrozen_lp tkv opv shv wyv bdv rov n k la stc).2.2 (f3_spread_l1 tkv opv shm wyv bdv icv n ck la k).1 ∧ (f0_followFrozen_lp tkv opv shv wyv bdv rov n k la stc).2.1 = (f3_spread_l1 tkv opv shm wyv bdv icv n ck la k).2.1 := by
  intro n
  induction n with
  | zero => intro k la stc ck _ h; exact ⟨h, rfl⟩
  | succ n ih =>
    intro k la stc ck hk h
    unfold f0_followFrozen_lp f3_spread_l1
    obtain ⟨e, h1⟩ := he k (by omega)
    rw [e]
    exact ih _ _ _ _ (by omega) (xr_leg hd h1 h)
/-- the least of the legs, as the class reckons it -/
theorem q0_lp {ct t b : Nat} {fev : Nat → Nat} {dnv : Nat → Int64} : ∀ (n : Nat) (le : Int64) (k : Nat), ((f0_earliest_lp tkv opv shv wyv bdv ct fev dnv t b n le k).1 ≤ le) ∧ (∀ j, k ≤ j → j < k + n → t.testBit j = true → (f0_earliest_lp tkv opv shv wyv bdv ct fev dnv t b n le k).1 ≤ f1_goodLeg tkv opv shv wyv bdv (fev j) (dnv (t * ct + j)) b) ∧ ((f0_earliest_lp tkv opv shv wyv bdv ct fev dnv t b n le k).1 = le ∨ ∃ j, k ≤ j ∧ j < k + n ∧ t.testBit j = true ∧ (f0_earliest_lp tkv opv shv wyv bdv ct fev dnv t b n le k).1 = f1_goodLeg tkv opv shv wyv bdv (fev j) (dnv (t * ct + j)) b) := by
  intro n
  induction n with
  | zero => intro le k; exact ⟨Int64.le_refl _, fun j h1 h2 => by omega, Or.inl rfl⟩
  | succ n ih =>
    intro le k
    unfold f0_earliest_lp
    have hh : f0_has t k = true ↔ t.testBit k = true := by
      unfold f0_has
      rw [← bt_d]
      by_cases c : t / 2 ^ k % 2 = 1
      · simp [c]
      · simp [c]
    by_cases c : f0_has t k = true
    · simp only [if_pos c]
      by_cases c2 : f1_goodLeg tkv opv shv wyv bdv (fev k) (dnv (t * ct + k)) b < le
      · simp only [if_pos c2]
        obtain ⟨a1, a2, a3⟩ := ih (f1_goodLeg tkv opv shv wyv bdv (fev k) (dnv (t * ct + k)) b) (k + 1)
        refine ⟨Int64.le_trans a1 (Int64.le_of_lt c2), fun j h1 h2 h3 => ?_, ?_⟩
        · by_cases e : j = k
          · subst e; exact a1
          · exact a2 j (by omega) (by omega) h3
        · rcases a3 with a3 | ⟨j, j1, j2, j3, j4⟩
          · exact Or.inr ⟨k, Nat.le_refl _, by omega, hh.mp c, a3⟩
          · exact Or.inr ⟨j, by omega, by omega, j3, j4⟩
      · simp only [if_neg c2]
        obtain ⟨a1, a2, a3⟩ := ih le (k + 1)
        refine ⟨a1, fun j h1 h2 h3 => ?_, ?_⟩
        · by_cases e : j = k
          · subst e; exact Int64.le_trans a1 (Int64.not_lt.mp c2)
          · exact a2 j (by omega) (by omega) h3
        · rcases a3 with a3 | ⟨j, j1, j2, j3, j4⟩
          · exact Or.inl a3
          · exact Or.inr ⟨j, by omega, by omega, j3, j4⟩
    · simp only [if_neg c]
      obtain ⟨a1, a2, a3⟩ := ih le (k + 1)
      refine ⟨a1, fun j h1 h2 h3 => ?_, ?_⟩
      · by_cases e : j = k
        · subst e; exact absurd (hh.mpr h3) c
        · exact a2 j (by omega) (by omega) h3
      · rcases a3 with a3 | ⟨j, j1, j2, j3, j4⟩
        · exact Or.inl a3
        · exact Or.inr ⟨j, by omega, by omega, j3, j4⟩
/-- a least of many: the same in both -/
theorem xr_min {B ct : Nat} {g w : Nat → Int64} {P : Nat → Prop} {u v : Int64} (hB : B < 1000000000000000) (hgw : ∀ j, j < ct → P j → xrel B (g j) (w j)) (u1 : u ≤ 1000000000000000) (u2 : ∀ j, j < ct → P j → u ≤ g j) (u3 : u = 1000000000000000 ∨ ∃ j, j < ct ∧ P j ∧ u = g j)
    (v2 : ∀ j, j < ct → P j → w j < 4000000000000000000 → v ≤ w j) (v3 : v = 4000000000000000000 ∨ ∃ j, j < ct ∧ P j ∧ v = w j) : xrel B u v := by
  by_cases c : u = 1000000000000000
  · left
    refine ⟨c, ?_⟩
    rcases v3 with v3 | ⟨j, j1, j2, j3⟩
    · exact v3
    · obtain ⟨a1, a2⟩ := xr_ne (hgw j j1 j2) hB
      by_cases c2 : g j = 1000000000000000
      · rw [j3]; exact a1.mp c2
      · have h1 := (a2 c2).2.2.1
        have h2 := u2 j j1 j2
        rw [c] at h2
        exact absurd h1 (Int64.not_lt.mpr h2)
  · rcases u3 with u3 | ⟨j, j1, j2, j3⟩
    · exact absurd u3 c
    · obtain ⟨a1, a2⟩ := xr_ne (hgw j j1 j2) hB
      obtain ⟨b1, b2, b3, b4⟩ := a2 (j3 ▸ c)
      have hv := v2 j j1 j2 b4
      right
      refine ⟨?_, j3 ▸ b2⟩
      rcases v3 with v3 | ⟨i, i1, i2, i3⟩
      · exfalso
        rw [v3] at hv
        exact absurd b4 (Int64.not_lt.mpr hv)
      · obtain ⟨d1, d2⟩ := xr_ne (hgw i i1 i2) hB
        have hgi : g i ≠ 1000000000000000 := by
          intro z
          have := d1.mp z
          rw [i3, this] at hv
          exact absurd b4 (Int64.not_lt.mpr hv)
        have e := (d2 hgi).1
        have hu := u2 i i1 i2
        rw [e, ← i3] at hu
        rw [← b1, ← j3] at hv
        exact Int64.le_antisymm hu hv
end CEX

