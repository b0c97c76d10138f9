section RS1
variable {tkv opv shv shm wyv : Nat → Int64} {bdv : Nat → Bool}
/-- the office's own UNTIL never matters in a row of stops -/
theorem ce_put1 {co pl x : Nat} {g : Nat → Nat} (hp : pl ≤ co) (hx : 1 ≤ x) (hg : ∀ j, j < co → 1 ≤ g j) : ∀ j, j < co + 1 → 1 ≤ f3_putIn_rov co g pl x j := by
  intro j hj
  rw [q3_putIn hp]
  by_cases c1 : j = pl
  · rw [if_pos c1]; exact hx
  · rw [if_neg c1]
    by_cases c2 : pl < j ∧ j ≤ co
    · rw [if_pos c2]; exact hg _ (by omega)
    · rw [if_neg c2]; exact hg _ (by omega)
theorem ce_putc {co pl x : Nat} {f g : Nat → Nat} (hp : pl ≤ co) (h2 : ∀ j, j < co → f j = g j) : ∀ j, j < co + 1 → f3_putIn_rov co f pl x j = f3_putIn_rov co g pl x j := by
  intro j hj
  rw [q3_putIn hp, q3_putIn hp]
  by_cases c1 : j = pl
  · rw [if_pos c1, if_pos c1]
  · rw [if_neg c1, if_neg c1]
    by_cases c2 : pl < j ∧ j ≤ co
    · rw [if_pos c2, if_pos c2]; exact h2 _ (by omega)
    · rw [if_neg c2, if_neg c2]; exact h2 _ (by omega)
theorem ce_ins_s {co x fz : Nat} (hs : ∀ i, 1 ≤ i → shv i = shm i) (hx : 1 ≤ x) (hco : co ≤ 19) : ∀ (n : Nat) (ch : Int32) (lst : Int64) (pl : Nat) (f g : Nat → Nat), pl + n = co + 1 → (∀ j, j < co → f j = g j) → (∀ j, j < co → 1 ≤ g j) →
    (f3_insert_lp tkv opv shv wyv bdv co x n ch lst pl f).1 = (f3_insert_lp tkv opv shm wyv bdv co x n ch lst pl g).1 := by
  intro n
  induction n with
  | zero => intro ch lst pl f g _ _ _; rfl
  | succ n ih =>
    intro ch lst pl f g h1 h2 h3
    unfold f3_insert_lp
    have hm : f3_measure tkv opv shv wyv bdv (f3_putIn_rs co) (f3_putIn_rov co f pl x) = f3_measure tkv opv shm wyv bdv (f3_putIn_rs co) (f3_putIn_rov co g pl x) :=
      ce_meas (N := co + 1) (ce_putc (by omega) h2) (fun j hj => hs _ (ce_put1 (by omega) hx h3 j hj))
    rw [hm]
    have e1 : ∀ j, j < co → f3_takeOut_rov (f3_putIn_rs co) (f3_putIn_rov co g pl x) pl j = g j := fun j hj => by
      rw [show f3_putIn_rs co = co + 1 from rfl, q3_tp (by omega) hj]
    refine ih _ _ _ _ _ (by omega) (fun j hj => ?_) (fun j hj => by rw [e1 j hj]; exact h3 j hj)
    rw [e1 j hj, show f3_putIn_rs co = co + 1 from rfl, q3_tp (by omega) hj]
    exact h2 j hj
theorem ce_ins_rs {co x fz : Nat} {r r2 : Nat → Nat} (hs : ∀ i, 1 ≤ i → shv i = shm i) (hx : 1 ≤ x) (hco : co ≤ 19) (hfz : fz ≤ co) (h : ∀ j, j < co → r j = r2 j) (h3 : ∀ j, j < co → 1 ≤ r2 j) : f3_insert tkv opv shv wyv bdv fz co r x = f3_insert tkv opv shm wyv bdv fz co r2 x ∧ (∀ j, j < co + 1 → f3_insert_rov tkv opv shv wyv bdv fz co r x j = f3_insert_rov tkv opv shm wyv bdv fz co r2 x j) ∧ ∀ j, j < co + 1 → 1 ≤ f3_insert_rov tkv opv shm wyv bdv fz co r2 x j := by
  have e := ce_ins_s (tkv := tkv) (opv := opv) (wyv := wyv) (bdv := bdv) (fz := fz) hs hx hco (co + 1 - fz) (-1) 0 fz r r2 (by omega) h h3
  obtain ⟨g1, k1⟩ := q3_ins_lp (tkv := tkv) (opv := opv) (shv := shv) (wyv := wyv) (bdv := bdv) (x := x) hco hfz r (co + 1 - fz) (-1) 0 fz r (by omega) (Nat.le_refl _) (Or.inl ⟨by decide, rfl⟩) (fun _ _ => rfl)
  obtain ⟨g2, k2⟩ := q3_ins_lp (tkv := tkv) (opv := opv) (shv := shm) (wyv := wyv) (bdv := bdv) (x := x) hco hfz r2 (co + 1 - fz) (-1) 0 fz r2 (by omega) (Nat.le_refl _) (Or.inl ⟨by decide, rfl⟩) (fun _ _ => rfl)
  have hp : cl (f3_insert_lp tkv opv shm wyv bdv co x (co + 1 - fz) (-1) 0 fz r2).1 ≤ co := by
    rcases g2 with z | z
    · omega
    · exact z.2.2
  refine ⟨by unfold f3_insert; rw [e], fun j hj => ?_, fun j hj => ?_⟩
  · unfold f3_insert_rov
    rw [e]
    exact ce_putc hp (fun i hi => by rw [k1 i hi, k2 i hi]; exact h i hi) j hj
  · unfold f3_insert_rov
    exact ce_put1 hp hx (fun i hi => by rw [k2 i hi]; exact h3 i hi) j hj
theorem ce_s3_s {fz : Nat} {fe fe2 : Nat → Nat} (hs : ∀ i, 1 ≤ i → shv i = shm i) : ∀ (n k rs : Nat) (r r2 : Nat → Nat), rs + n ≤ 20 → fz ≤ rs → (∀ j, k ≤ j → j < k + n → fe j = fe2 j ∧ 1 ≤ fe2 j) → (∀ j, j < rs → r j = r2 j) → (∀ j, j < rs → 1 ≤ r2 j) → ∀ j, j < rs + n → (f3_solve_s3 tkv opv shv wyv bdv fz fe n k rs r).2.2 j = (f3_solve_s3 tkv opv shm wyv bdv fz fe2 n k rs r2).2.2 j := by
  intro n
  induction n with
  | zero => intro k rs r r2 h1 h2 h0 h3 h4; exact h3
  | succ n ih =>
    intro k rs r r2 h1 h2 h0 h3 h4
    unfold f3_solve_s3
    have e : rs + (n + 1) = rs + 1 + n := by omega
    rw [e, (h0 k (Nat.le_refl _) (by omega)).1]
    obtain ⟨a1, a2, a3⟩ := ce_ins_rs (tkv := tkv) (opv := opv) (wyv := wyv) (bdv := bdv) hs (h0 k (Nat.le_refl _) (by omega)).2 (show rs ≤ 19 by omega) h2 h3 h4
    exact ih (k + 1) (rs + 1) _ _ (by omega) (by omega) (fun j hj1 hj2 => h0 j (by omega) (by omega)) a2 a3
theorem ce_better_s {rs i j : Nat} {r r2 : Nat → Nat} (hs : ∀ i, 1 ≤ i → shv i = shm i) (h : ∀ k, k < rs → r k = r2 k) (h3 : ∀ k, k < rs → 1 ≤ r2 k) (hi : i < rs) (hj : j < rs) : f3_better tkv opv shv wyv bdv rs r i j = f3_better tkv opv shm wyv bdv rs r2 i j ∧ ∀ k, k < rs → f3_better_rov tkv opv shv wyv bdv rs r i j k = f3_better_rov tkv opv shm wyv bdv rs r2 i j k := by
  have ht : ∀ k, k < rs → f3_turn_rov r i j k = f3_turn_rov r2 i j k := fun k hk => by rw [q3_turn_at, q3_turn_at, h i hi, h j hj, h k hk]
  have ht1 : ∀ k, k < rs → 1 ≤ f3_turn_rov r2 i j k := fun k hk => by
    rw [q3_turn_at]
    split
    · exact h3 i hi
    · split
      · exact h3 j hj
      · exact h3 k hk
  have m1 := ce_meas (tkv := tkv) (opv := opv) (wyv := wyv) (bdv := bdv) (N := rs) h (fun k hk => hs _ (h3 k hk))
  have m2 := ce_meas (tkv := tkv) (opv := opv) (wyv := wyv) (bdv := bdv) (N := rs) ht (fun k hk => hs _ (ht1 k hk))
  have eb : f3_better tkv opv shv wyv bdv rs r i j = f3_better tkv opv shm wyv bdv rs r2 i j := by unfold f3_better; rw [m1, m2]
  refine ⟨eb, fun k hk => ?_⟩
  rw [q3_better_r, q3_better_r, eb]
  split
  · exact ht k hk
  · exact h k hk
theorem ce_impr_s {fz rs B : Nat} (hs : ∀ i, 1 ≤ i → shv i = shm i) : ∀ (n : Nat) (lf : Int64) (i j : Nat) (r r2 : Nat → Nat), fz ≤ i → i < j → (i + 1 < rs → j < rs) → (∀ k, k < rs → r k = r2 k) → q_row rs B r2 →
    ∀ k, k < rs → (f3_improve_lp tkv opv shv wyv bdv fz rs n lf i j r).2.2.2 k = (f3_improve_lp tkv opv shm wyv bdv fz rs n lf i j r2).2.2.2 k := by
  intro n
  induction n with
  | zero => intro lf i j r r2 _ _ _ h _; exact h
  | succ n ih =>
    intro lf i j r r2 h1 h2 h3 h hq
    unfold f3_improve_lp
    by_cases c1 : rs ≤ i + 1
    · rw [if_pos c1, if_pos c1]; exact h
    · rw [if_neg c1, if_neg c1]
      obtain ⟨b1, b2⟩ := ce_better_s (tkv := tkv) (opv := opv) (wyv := wyv) (bdv := bdv) hs h (fun k hk => (hq.1 k hk).1) (show i < rs by omega) (h3 (by omega))
      have hb := qr_better (tkv := tkv) (opv := opv) (shv := shm) (wyv := wyv) (bdv := bdv) hq (show i < rs by omega) (h3 (by omega))
      rw [b1]
      by_cases c2 : f3_better tkv opv shm wyv bdv rs r2 i j = true
      · rw [if_pos c2, if_pos c2]
        exact ih _ _ _ _ _ (Nat.le_refl _) (by omega) (by omega) b2 hb
      · rw [if_neg c2, if_neg c2]
        exact ih _ _ _ _ _ (by split <;> omega) (by split <;> omega) (by split <;> omega) b2 hb
/-- inserting and exchanging: the class's and the reference's row -/
theorem ce_slow {fz sn : Nat} {rov icv r0 f g : Nat → Nat} {stp : Int64} (hs : ∀ i, 1 ≤ i → shv i = shm i) (hsn : sn ≤ 20) (hri : q_row fz sn icv) (he : ∀ i, i < fz → rov i = icv i) :
    (∀ j, j < sn → f2_improve_rov fz tkv opv shv wyv bdv (f2_insertFreeStops_rov fz sn tkv opv shv wyv bdv rov) stp sn j = f3_improve_rov tkv opv shm wyv bdv fz sn (f3_solve_s3 tkv opv shm wyv bdv fz (f3_solve_s1 fz icv sn 1 0 g).2.2 (f3_solve_s1 fz icv sn 1 0 g).2.1 0 fz (f3_solve_s2 icv fz 0 r0).2).2.2 stp j) ∧
    q_row sn sn (f3_improve_rov tkv opv shm wyv bdv fz sn (f3_solve_s3 tkv opv shm wyv bdv fz (f3_solve_s1 fz icv sn 1 0 g).2.2 (f3_solve_s1 fz icv sn 1 0 g).2.1 0 fz (f3_solve_s2 icv fz 0 r0).2).2.2 stp) ∧
    ∀ i, i < fz → f3_improve_rov tkv opv shm wyv bdv fz sn (f3_solve_s3 tkv opv shm wyv bdv fz (f3_solve_s1 fz icv sn 1 0 g).2.2 (f3_solve_s1 fz icv sn 1 0 g).2.1 0 fz (f3_solve_s2 icv fz 0 r0).2).2.2 stp i = icv i := by
  have hri2 : q_row fz sn rov := qr_ext he hri
  obtain ⟨q1, q2, q3⟩ := q3_ins_row (tkv := tkv) (opv := opv) (shv := shm) (wyv := wyv) (bdv := bdv) (rov := r0) (fev0 := g) hsn hri
  obtain ⟨i1, i2⟩ := qr_improve (tkv := tkv) (opv := opv) (shv := shm) (wyv := wyv) (bdv := bdv) (fz := fz) (stp := stp) q2
  refine ⟨fun j hj => ?_, i1, fun i hi => (i2 i hi).trans (q3 i hi)⟩
  rw [ce_impr]
  unfold f3_improve_rov
  refine ce_impr_s hs _ _ _ _ _ _ (Nat.le_refl _) (by omega) (by omega) (fun k hk => ?_) q2 j hj
  rw [ce_ifs (fev := g) (r := rov) hsn hri2 (fun _ _ => rfl) k hk]
  obtain ⟨b1, b2⟩ := ce_s1_c he sn 1 0 g g (fun _ _ => rfl)
  obtain ⟨a1, a2, a3⟩ := q3_free (fev := g) hri
  rw [b1]
  refine ce_s3_s hs _ _ _ _ _ (by omega) (Nat.le_refl _) (fun j _ hj2 => ⟨b2 j (by omega), (a2 j (by omega)).1⟩) (fun j hj => ?_) (fun j hj => ?_) k (by omega)
  · rw [q3_s2, if_pos (by omega)]; exact he j hj
  · rw [q3_s2, if_pos (by omega)]; exact (hri.1 j hj).1
/-- solved: the row, either way -/
theorem ce_solved {fz sn : Nat} {rov icv rm f g : Nat → Nat} {stp : Int64} {eav dnv : Nat → Int64} {dl : Nat} (hd : xdat tkv opv shv shm wyv) (hb0 : bdv 0 = false) (hsn : sn ≤ 20) (hri : q_row fz sn icv) (he : ∀ i, i < fz → rov i = icv i) :
    (∀ j, j < sn → (if f0_fill sn tkv opv shv wyv bdv f dl dnv rov fz = true then f0_fill_rov sn tkv opv shv wyv bdv f dl dnv rov fz else f2_improve_rov fz tkv opv shv wyv bdv (f2_insertFreeStops_rov fz sn tkv opv shv wyv bdv rov) stp sn) j =
      (if 11 < (f3_solve_s1 fz icv sn 1 0 g).2.1 then f3_improve_rov tkv opv shm wyv bdv fz sn (f3_solve_s3 tkv opv shm wyv bdv fz (f3_solve_s1 fz icv sn 1 0 g).2.2 (f3_solve_s1 fz icv sn 1 0 g).2.1 0 fz (f3_solve_s2 icv fz 0 rm).2).2.2 stp else (if f3_findExact sn tkv opv shm wyv bdv fz icv (f3_solve_s1 fz icv sn 1 0 g).2.1 (f3_solve_s1 fz icv sn 1 0 g).2.2 eav rm = true then f3_findExact_rov sn tkv opv shm wyv bdv fz icv (f3_solve_s1 fz icv sn 1 0 g).2.1 (f3_solve_s1 fz icv sn 1 0 g).2.2 eav rm else f3_improve_rov tkv opv shm wyv bdv fz sn (f3_solve_s3 tkv opv shm wyv bdv fz (f3_solve_s1 fz icv sn 1 0 g).2.2 (f3_solve_s1 fz icv sn 1 0 g).2.1 0 fz (f3_solve_s2 icv fz 0 (f3_findExact_rov sn tkv opv shm wyv bdv fz icv (f3_solve_s1 fz icv sn 1 0 g).2.1 (f3_solve_s1 fz icv sn 1 0 g).2.2 eav rm)).2).2.2 stp)) j) ∧
    q_row sn sn (if 11 < (f3_solve_s1 fz icv sn 1 0 g).2.1 then f3_improve_rov tkv opv shm wyv bdv fz sn (f3_solve_s3 tkv opv shm wyv bdv fz (f3_solve_s1 fz icv sn 1 0 g).2.2 (f3_solve_s1 fz icv sn 1 0 g).2.1 0 fz (f3_solve_s2 icv fz 0 rm).2).2.2 stp else (if f3_findExact sn tkv opv shm wyv bdv fz icv (f3_solve_s1 fz icv sn 1 0 g).2.1 (f3_solve_s1 fz icv sn 1 0 g).2.2 eav rm = true then f3_findExact_rov sn tkv opv shm wyv bdv fz icv (f3_solve_s1 fz icv sn 1 0 g).2.1 (f3_solve_s1 fz icv sn 1 0 g).2.2 eav rm else f3_improve_rov tkv opv shm wyv bdv fz sn (f3_solve_s3 tkv opv shm wyv bdv fz (f3_solve_s1 fz icv sn 1 0 g).2.2 (f3_solve_s1 fz icv sn 1 0 g).2.1 0 fz (f3_solve_s2 icv fz 0 (f3_findExact_rov sn tkv opv shm wyv bdv fz icv (f3_solve_s1 fz icv sn 1 0 g).2.1 (f3_solve_s1 fz icv sn 1 0 g).2.2 eav rm)).2).2.2 stp)) ∧
    ∀ i, i < fz → (if 11 < (f3_solve_s1 fz icv sn 1 0 g).2.1 then f3_improve_rov tkv opv shm wyv bdv fz sn (f3_solve_s3 tkv opv shm wyv bdv fz (f3_solve_s1 fz icv sn 1 0 g).2.2 (f3_solve_s1 fz icv sn 1 0 g).2.1 0 fz (f3_solve_s2 icv fz 0 rm).2).2.2 stp else (if f3_findExact sn tkv opv shm wyv bdv fz icv (f3_solve_s1 fz icv sn 1 0 g).2.1 (f3_solve_s1 fz icv sn 1 0 g).2.2 eav rm = true then f3_findExact_rov sn tkv opv shm wyv bdv fz icv (f3_solve_s1 fz icv sn 1 0 g).2.1 (f3_solve_s1 fz icv sn 1 0 g).2.2 eav rm else f3_improve_rov tkv opv shm wyv bdv fz sn (f3_solve_s3 tkv opv shm wyv bdv fz (f3_solve_s1 fz icv sn 1 0 g).2.2 (f3_solve_s1 fz icv sn 1 0 g).2.1 0 fz (f3_solve_s2 icv fz 0 (f3_findExact_rov sn tkv opv shm wyv bdv fz icv (f3_solve_s1 fz icv sn 1 0 g).2.1 (f3_solve_s1 fz icv sn 1 0 g).2.2 eav rm)).2).2.2 stp)) i = icv i := by
  have hs : ∀ i, 1 ≤ i → shv i = shm i := hd.2.2.2.1
  obtain ⟨a1, a2, a3⟩ := q3_free (fev := g) hri
  by_cases c : 11 < (f3_solve_s1 fz icv sn 1 0 g).2.1
  · have hf : ¬ f0_fill sn tkv opv shv wyv bdv f dl dnv rov fz = true := by
      unfold f0_fill
      rw [if_neg (by omega)]; decide
    simp only [if_pos c, if_neg hf]
    exact ce_slow (f := f) hs hsn hri he
  · obtain ⟨e1, e2⟩ := ce_fill (bdv := bdv) hd (f := f) (g := g) (rm := rm) (eav := eav) (dnv := dnv) (dl := dl) hri he hb0 (by omega)
    simp only [if_neg c]
    by_cases c2 : f0_fill sn tkv opv shv wyv bdv f dl dnv rov fz = true
    · have c3 : f3_findExact sn tkv opv shm wyv bdv fz icv (f3_solve_s1 fz icv sn 1 0 g).2.1 (f3_solve_s1 fz icv sn 1 0 g).2.2 eav rm = true := by rw [← e1]; exact c2
      simp only [if_pos c2, if_pos c3]
      obtain ⟨w1, w2⟩ := q3_find_row (by omega) a1 hri a2 a3 c3
      exact ⟨e2 c2, w1, w2⟩
    · have c3 : ¬ f3_findExact sn tkv opv shm wyv bdv fz icv (f3_solve_s1 fz icv sn 1 0 g).2.1 (f3_solve_s1 fz icv sn 1 0 g).2.2 eav rm = true := by rw [← e1]; exact c2
      simp only [if_neg c2, if_neg c3]
      exact ce_slow (f := f) hs hsn hri he
end RS1

