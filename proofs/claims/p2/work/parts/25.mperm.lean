/-! rows without a stop twice -/
def q_row (n B : Nat) (f : Nat → Nat) : Prop := (∀ k, k < n → 1 ≤ f k ∧ f k ≤ B) ∧ ∀ i j, i < n → j < n → f i = f j → i = j
theorem qr_ext {n B : Nat} {f g : Nat → Nat} (e : ∀ k, k < n → g k = f k) (h : q_row n B f) : q_row n B g :=
  ⟨fun k hk => by rw [e k hk]; exact h.1 k hk, fun i j hi hj z => h.2 i j hi hj (by rw [← e i hi, ← e j hj]; exact z)⟩
theorem q3_turn_at {f : Nat → Nat} {i j k : Nat} : f3_turn_rov f i j k = if k = j then f i else if k = i then f j else f k := by
  unfold f3_turn_rov
  by_cases h1 : k = j
  · subst h1; rw [va_up_self, if_pos rfl]
  · rw [va_up_ne _ _ h1, if_neg h1]
    by_cases h2 : k = i
    · subst h2; rw [va_up_self, if_pos rfl]
    · rw [va_up_ne _ _ h2, if_neg h2]
theorem q3_turn2 {f : Nat → Nat} {i j : Nat} : f3_turn_rov (f3_turn_rov f i j) i j = f := by
  funext k
  rw [q3_turn_at, q3_turn_at, q3_turn_at, q3_turn_at]
  by_cases h1 : k = j
  · subst h1
    by_cases h2 : i = k
    · subst h2; simp
    · simp [h2]
  · by_cases h2 : k = i
    · subst h2; simp [h1]
    · simp [h1, h2]
theorem qr_turn {n B i j : Nat} {f : Nat → Nat} (h : q_row n B f) (hi : i < n) (hj : j < n) : q_row n B (f3_turn_rov f i j) := by
  constructor
  · intro k hk
    rw [q3_turn_at]
    split
    · exact h.1 i hi
    · split
      · exact h.1 j hj
      · exact h.1 k hk
  · intro a b ha hb z
    rw [q3_turn_at, q3_turn_at] at z
    by_cases a1 : a = j
    · rw [if_pos a1] at z
      by_cases b1 : b = j
      · omega
      · rw [if_neg b1] at z
        by_cases b2 : b = i
        · rw [if_pos b2] at z; have := h.2 i j hi hj z; omega
        · rw [if_neg b2] at z; have := h.2 i b hi hb z; omega
    · rw [if_neg a1] at z
      by_cases a2 : a = i
      · rw [if_pos a2] at z
        by_cases b1 : b = j
        · rw [if_pos b1] at z; have := h.2 j i hj hi z; omega
        · rw [if_neg b1] at z
          by_cases b2 : b = i
          · omega
          · rw [if_neg b2] at z; have := h.2 j b hj hb z; omega
      · rw [if_neg a2] at z
        by_cases b1 : b = j
        · rw [if_pos b1] at z; have := h.2 a i ha hi z; omega
        · rw [if_neg b1] at z
          by_cases b2 : b = i
          · rw [if_pos b2] at z; have := h.2 a j ha hj z; omega
          · rw [if_neg b2] at z; exact h.2 a b ha hb z
/-- the row with a stop put in: each place tells whence it is -/
theorem q3_putIn_src {n pl x k : Nat} {f : Nat → Nat} (h : pl ≤ n) (hk : k < n + 1) : (k = pl ∧ f3_putIn_rov n f pl x k = x) ∨ (k ≠ pl ∧ ∃ i, i < n ∧ (i = if k < pl then k else k - 1) ∧ f3_putIn_rov n f pl x k = f i) := by
  rw [q3_putIn h]
  by_cases h1 : k = pl
  · left; exact ⟨h1, by rw [if_pos h1]⟩
  · right
    refine ⟨h1, ?_⟩
    rw [if_neg h1]
    by_cases h2 : pl < k ∧ k ≤ n
    · rw [if_pos h2]
      exact ⟨k - 1, by omega, by rw [if_neg (by omega)], rfl⟩
    · rw [if_neg h2]
      exact ⟨k, by omega, by rw [if_pos (by omega)], rfl⟩
theorem qr_putIn {n B pl x : Nat} {f : Nat → Nat} (h : q_row n B f) (hp : pl ≤ n) (h1 : 1 ≤ x) (h2 : x ≤ B) (hx : ∀ k, k < n → f k ≠ x) : q_row (n + 1) B (f3_putIn_rov n f pl x) := by
  constructor
  · intro k hk
    rcases q3_putIn_src (f := f) (x := x) hp hk with ⟨_, e⟩ | ⟨_, i, hi, _, e⟩
    · rw [e]; exact ⟨h1, h2⟩
    · rw [e]; exact h.1 i hi
  · intro a b ha hb z
    rcases q3_putIn_src (f := f) (x := x) hp ha with ⟨a0, ea⟩ | ⟨a0, i, hi, ei, ea⟩
    · rcases q3_putIn_src (f := f) (x := x) hp hb with ⟨b0, eb⟩ | ⟨b0, j, hj, ej, eb⟩
      · omega
      · rw [ea, eb] at z; exact absurd z.symm (hx j hj)
    · rcases q3_putIn_src (f := f) (x := x) hp hb with ⟨b0, eb⟩ | ⟨b0, j, hj, ej, eb⟩
      · rw [ea, eb] at z; exact absurd z (hx i hi)
      · rw [ea, eb] at z
        have e := h.2 i j hi hj z
        rw [ei, ej] at e
        by_cases c1 : a < pl
        · rw [if_pos c1] at e
          by_cases c2 : b < pl
          · rw [if_pos c2] at e; exact e
          · rw [if_neg c2] at e; omega
        · rw [if_neg c1] at e
          by_cases c2 : b < pl
          · rw [if_pos c2] at e; omega
          · rw [if_neg c2] at e; omega
theorem q3_tp {n pl x k : Nat} {f : Nat → Nat} (hp : pl ≤ n) (hk : k < n) : f3_takeOut_rov (n + 1) (f3_putIn_rov n f pl x) pl k = f k := by
  rw [q3_takeOut (by omega)]
  by_cases h1 : pl ≤ k ∧ k < n + 1 - 1
  · rw [if_pos h1, q3_putIn hp, if_neg (by omega), if_pos (by omega)]
    rfl
  · rw [if_neg h1, q3_putIn hp, if_neg (by omega), if_neg (by omega)]
theorem qr_takeOut {n B pl : Nat} {f : Nat → Nat} (h : q_row n B f) (hp : pl < n) : q_row (n - 1) B (f3_takeOut_rov n f pl) ∧ ∀ k, k < n - 1 → f3_takeOut_rov n f pl k ≠ f pl := by
  have src : ∀ k, k < n - 1 → ∃ i, i < n ∧ i ≠ pl ∧ (i = if pl ≤ k then k + 1 else k) ∧ f3_takeOut_rov n f pl k = f i := by
    intro k hk
    rw [q3_takeOut hp]
    by_cases h1 : pl ≤ k ∧ k < n - 1
    · rw [if_pos h1]; exact ⟨k + 1, by omega, by omega, by rw [if_pos h1.1], rfl⟩
    · rw [if_neg h1]; exact ⟨k, by omega, by omega, by rw [if_neg (by omega)], rfl⟩
  refine ⟨⟨fun k hk => ?_, fun a b ha hb z => ?_⟩, fun k hk z => ?_⟩
  · obtain ⟨i, hi, _, _, e⟩ := src k hk
    rw [e]; exact h.1 i hi
  · obtain ⟨i, hi, _, ei, e1⟩ := src a ha
    obtain ⟨j, hj, _, ej, e2⟩ := src b hb
    rw [e1, e2] at z
    have e := h.2 i j hi hj z
    rw [ei, ej] at e
    split at e <;> split at e <;> omega
  · obtain ⟨i, hi, hne, _, e⟩ := src k hk
    rw [e] at z
    exact hne (h.2 i pl hi hp z)
section QPM
variable {tkv opv shv wyv : Nat → Int64} {bdv : Nat → Bool} {fz rs x : Nat}
/-- the tries of insert leave the row as it was, and choose a place -/
theorem q3_ins_lp (hrs : rs ≤ 19) (hfz : fz ≤ rs) (r0 : Nat → Nat) : ∀ (n : Nat) (ch : Int32) (lst : Int64) (pl : Nat) (rov : Nat → Nat), pl + n = rs + 1 → fz ≤ pl → (ch < 0 ∧ pl = fz ∨ q3_good fz rs ch) → (∀ k, k < rs → rov k = r0 k) →
    ((f3_insert_lp tkv opv shv wyv bdv rs x n ch lst pl rov).1 < 0 ∧ rs + 1 = fz ∨ q3_good fz rs (f3_insert_lp tkv opv shv wyv bdv rs x n ch lst pl rov).1) ∧ ∀ k, k < rs → (f3_insert_lp tkv opv shv wyv bdv rs x n ch lst pl rov).2.2.2 k = r0 k := by
  intro n
  induction n with
  | zero =>
    intro ch lst pl rov h1 h2 h3 h4
    have e : pl = rs + 1 := by omega
    subst e
    exact ⟨h3, h4⟩
  | succ n ih =>
    intro ch lst pl rov h1 h2 h3 h4
    exact ih _ _ _ _ (by omega) (by omega) (q3_ch h3 h2 (by omega) (by omega)) (fun k hk => by rw [show f3_putIn_rs rs = rs + 1 from rfl, q3_tp (by omega) hk]; exact h4 k hk)
theorem q3_insert (hrs : rs ≤ 19) (hfz : fz ≤ rs) (rov : Nat → Nat) : ∃ (r1 : Nat → Nat) (pl : Nat), fz ≤ pl ∧ pl ≤ rs ∧ (∀ k, k < rs → r1 k = rov k) ∧ f3_insert tkv opv shv wyv bdv fz rs rov x = nI pl ∧ f3_insert_rov tkv opv shv wyv bdv fz rs rov x = f3_putIn_rov rs r1 pl x := by
  obtain ⟨h1, h2⟩ := q3_ins_lp (tkv := tkv) (opv := opv) (shv := shv) (wyv := wyv) (bdv := bdv) (x := x) hrs hfz rov (rs + 1 - fz) (-1) 0 fz rov (by omega) (Nat.le_refl _) (Or.inl ⟨by decide, rfl⟩) (fun _ _ => rfl)
  rcases h1 with h1 | h1
  · omega
  · exact ⟨_, _, h1.2.1, h1.2.2, h2, rfl, rfl⟩
theorem qr_insert {B : Nat} {rov : Nat → Nat} (hrs : rs ≤ 19) (hfz : fz ≤ rs) (h : q_row rs B rov) (h1 : 1 ≤ x) (h2 : x ≤ B) (hx : ∀ k, k < rs → rov k ≠ x) :
    q_row (rs + 1) B (f3_insert_rov tkv opv shv wyv bdv fz rs rov x) ∧ (∀ k, k < fz → f3_insert_rov tkv opv shv wyv bdv fz rs rov x k = rov k) ∧ ∀ k, k < rs + 1 → f3_insert_rov tkv opv shv wyv bdv fz rs rov x k = x ∨ ∃ i, i < rs ∧ f3_insert_rov tkv opv shv wyv bdv fz rs rov x k = rov i := by
  obtain ⟨r1, pl, p1, p2, e1, _, e2⟩ := q3_insert (tkv := tkv) (opv := opv) (shv := shv) (wyv := wyv) (bdv := bdv) (x := x) hrs hfz rov
  rw [e2]
  refine ⟨qr_putIn (qr_ext e1 h) p2 h1 h2 (fun k hk => by rw [e1 k hk]; exact hx k hk), fun k hk => ?_, fun k hk => ?_⟩
  · rw [q3_putIn p2, if_neg (by omega), if_neg (by omega)]; exact e1 k (by omega)
  · rcases q3_putIn_src (f := r1) (x := x) p2 hk with ⟨_, e⟩ | ⟨_, i, hi, _, e⟩
    · exact Or.inl e
    · exact Or.inr ⟨i, hi, by rw [e]; exact e1 i hi⟩
theorem q3_better_r {rov : Nat → Nat} {i j : Nat} : f3_better_rov tkv opv shv wyv bdv rs rov i j = if f3_better tkv opv shv wyv bdv rs rov i j = true then f3_turn_rov rov i j else rov := by
  unfold f3_better_rov f3_better
  by_cases h : f3_measure tkv opv shv wyv bdv rs rov ≤ f3_measure tkv opv shv wyv bdv rs (f3_turn_rov rov i j)
  · simp [h, q3_turn2]
  · simp [h]
theorem qr_better {B i j : Nat} {rov : Nat → Nat} (h : q_row rs B rov) (hi : i < rs) (hj : j < rs) : q_row rs B (f3_better_rov tkv opv shv wyv bdv rs rov i j) := by
  rw [q3_better_r]
  split
  · exact qr_turn h hi hj
  · exact h
theorem q3_better_lo {i j k : Nat} {rov : Nat → Nat} (hi : k ≠ i) (hj : k ≠ j) : f3_better_rov tkv opv shv wyv bdv rs rov i j k = rov k := by
  rw [q3_better_r]
  split
  · rw [q3_turn_at, if_neg hj, if_neg hi]
  · rfl
theorem q3_impr_lp {B : Nat} : ∀ (n : Nat) (lf : Int64) (i j : Nat) (rov : Nat → Nat), fz ≤ i → i < j → (i + 1 < rs → j < rs) → q_row rs B rov →
    q_row rs B (f3_improve_lp tkv opv shv wyv bdv fz rs n lf i j rov).2.2.2 ∧ ∀ k, k < fz → (f3_improve_lp tkv opv shv wyv bdv fz rs n lf i j rov).2.2.2 k = rov k := by
  intro n
  induction n with
  | zero => intro lf i j rov _ _ _ h; exact ⟨h, fun _ _ => rfl⟩
  | succ n ih =>
    intro lf i j rov h1 h2 h3 h
    unfold f3_improve_lp
    by_cases c1 : rs ≤ i + 1
    · rw [if_pos c1]; exact ⟨h, fun _ _ => rfl⟩
    · rw [if_neg c1]
      have hb := qr_better (tkv := tkv) (opv := opv) (shv := shv) (wyv := wyv) (bdv := bdv) h (show i < rs by omega) (h3 (by omega))
      by_cases c2 : f3_better tkv opv shv wyv bdv rs rov i j = true
      · rw [if_pos c2]
        obtain ⟨a, b⟩ := ih (lf - 1) fz (fz + 1) _ (Nat.le_refl _) (by omega) (by omega) hb
        exact ⟨a, fun k hk => by rw [b k hk]; exact q3_better_lo (by omega) (by omega)⟩
      · rw [if_neg c2]
        obtain ⟨a, b⟩ := ih (lf - 1) (if j + 1 = rs then i + 1 else i) (if j + 1 = rs then (if j + 1 = rs then i + 1 else i) + 1 else j + 1) _ (by split <;> omega) (by split <;> omega) (by split <;> omega) hb
        exact ⟨a, fun k hk => by rw [b k hk]; exact q3_better_lo (by omega) (by omega)⟩
theorem qr_improve {B : Nat} {rov : Nat → Nat} {stp : Int64} (h : q_row rs B rov) : q_row rs B (f3_improve_rov tkv opv shv wyv bdv fz rs rov stp) ∧ ∀ k, k < fz → f3_improve_rov tkv opv shv wyv bdv fz rs rov stp k = rov k := by
  unfold f3_improve_rov
  exact q3_impr_lp _ _ _ _ _ (Nat.le_refl _) (by omega) (by omega) h
end QPM
theorem q3_keep_lp {rov : Nat → Nat} : ∀ (n k : Nat) (rdv : Nat → Nat) (j : Nat), (f3_keep_lp rov n k rdv).2 j = if k ≤ j ∧ j < k + n then rov j else rdv j := by
  intro n
  induction n with
  | zero =>
    intro k rdv j
    rw [if_neg (by omega)]; rfl
  | succ n ih =>
    intro k rdv j
    show (f3_keep_lp rov n (k + 1) (va_up rdv k (rov k))).2 j = _
    rw [ih]
    by_cases h1 : k + 1 ≤ j ∧ j < k + 1 + n
    · rw [if_pos h1, if_pos (by omega)]
    · rw [if_neg h1]
      by_cases h2 : j = k
      · subst h2; rw [if_pos (by omega), va_up_self]
      · rw [if_neg (by omega), va_up_ne _ _ h2]
theorem q3_keep {rs : Nat} {rdv rov : Nat → Nat} (j : Nat) : f3_keep_rdv rdv rs rov j = if j < rs then rov j else rdv j := by
  unfold f3_keep_rdv
  rw [q3_keep_lp]
  by_cases h : j < rs
  · rw [if_pos (by omega), if_pos h]
  · rw [if_neg (by omega), if_neg h]
theorem qr_keep {rs B : Nat} {rdv rov : Nat → Nat} (h : q_row rs B rov) : q_row rs B (f3_keep_rdv rdv rs rov) := qr_ext (fun k hk => by rw [q3_keep, if_pos hk]) h
theorem qr_fetch {rn B : Nat} {rdv rov : Nat → Nat} (h : q_row rn B rdv) : q_row rn B (f3_fetch_rov rn rdv rov) := qr_ext (fun k hk => by rw [q3_fetch, if_pos hk]) h
/-! which stops are frozen -/
theorem q3_isFr_lp {icv : Nat → Nat} {x : Nat} : ∀ (n : Nat) (is : Bool) (k : Nat), (f3_isFrozen_lp icv x n is k).1 = true ↔ is = true ∨ ∃ i, k ≤ i ∧ i < k + n ∧ icv i = x := by
  intro n
  induction n with
  | zero =>
    intro is k
    constructor
    · intro h; exact Or.inl h
    · rintro (h | ⟨i, h1, h2, _⟩)
      · exact h
      · omega
  | succ n ih =>
    intro is k
    unfold f3_isFrozen_lp
    rw [ih]
    constructor
    · rintro (h | ⟨i, h1, h2, h3⟩)
      · by_cases c1 : is = true
        · exact Or.inl c1
        · rw [if_neg c1] at h
          by_cases c2 : icv k = x
          · exact Or.inr ⟨k, Nat.le_refl _, by omega, c2⟩
          · rw [if_neg c2] at h; cases h
      · exact Or.inr ⟨i, by omega, by omega, h3⟩
    · rintro (h | ⟨i, h1, h2, h3⟩)
      · left; rw [if_pos h]
      · by_cases e : i = k
        · subst e; left
          by_cases c1 : is = true
          · rw [if_pos c1]
          · rw [if_neg c1, if_pos h3]
        · exact Or.inr ⟨i, by omega, by omega, h3⟩
theorem q3_isFr {fz x : Nat} {icv : Nat → Nat} : f3_isFrozen fz icv x = true ↔ ∃ i, i < fz ∧ icv i = x := by
  unfold f3_isFrozen
  rw [q3_isFr_lp]
  constructor
  · rintro (h | ⟨i, _, h2, h3⟩)
    · cases h
    · exact ⟨i, by omega, h3⟩
  · rintro ⟨i, h1, h2⟩
    exact Or.inr ⟨i, Nat.zero_le _, by omega, h2⟩
/-- how many of the first m are below b -/
def q_cnt (f : Nat → Nat) : Nat → Nat → Nat
  | 0, _ => 0
  | m + 1, b => q_cnt f m b + (if f m < b then 1 else 0)
theorem q_cnt_all {f : Nat → Nat} {b : Nat} : ∀ m, (∀ i, i < m → f i < b) → q_cnt f m b = m := by
  intro m
  induction m with
  | zero => intro _; rfl
  | succ m ih =>
    intro h
    unfold q_cnt
    rw [ih (fun i hi => h i (by omega)), if_pos (h m (by omega))]
theorem q_cnt_none {f : Nat → Nat} : ∀ m, (∀ i, i < m → 1 ≤ f i) → q_cnt f m 1 = 0 := by
  intro m
  induction m with
  | zero => intro _; rfl
  | succ m ih =>
    intro h
    unfold q_cnt
    have := h m (by omega)
    rw [ih (fun i hi => h i (by omega)), if_neg (by omega)]
theorem q_cnt_s {f : Nat → Nat} {b : Nat} : ∀ m, (∀ i j, i < m → j < m → f i = f j → i = j) → q_cnt f m (b + 1) = q_cnt f m b + (if ∃ i, i < m ∧ f i = b then 1 else 0) := by
  intro m
  induction m with
  | zero =>
    intro _
    have : ¬ ∃ i, i < 0 ∧ f i = b := by rintro ⟨i, h, _⟩; omega
    unfold q_cnt
    rw [if_neg this]
  | succ m ih =>
    intro h
    unfold q_cnt
    rw [ih (fun i j hi hj => h i j (by omega) (by omega))]
    by_cases c : f m = b
    · have h1 : ¬ ∃ i, i < m ∧ f i = b := by
        rintro ⟨i, h1, h2⟩
        have := h i m (by omega) (by omega) (by rw [h2, c])
        omega
      have h2 : ∃ i, i < m + 1 ∧ f i = b := ⟨m, by omega, c⟩
      rw [if_neg h1, if_pos h2, if_pos (by omega), if_neg (by omega)]
    · have h1 : (∃ i, i < m + 1 ∧ f i = b) ↔ ∃ i, i < m ∧ f i = b := by
        constructor
        · rintro ⟨i, h1, h2⟩
          by_cases e : i = m
          · subst e; exact absurd h2 c
          · exact ⟨i, by omega, h2⟩
        · rintro ⟨i, h1, h2⟩; exact ⟨i, by omega, h2⟩
      have h2 : (f m < b + 1) ↔ f m < b := by omega
      simp only [h1, h2]
      omega

