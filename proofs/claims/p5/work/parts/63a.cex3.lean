section CEZ
variable {tkv opv shv shm wyv : Nat → Int64} {bdv : Nat → Bool} {fev : Nat → Nat} {ct sta : Nat} {stc : Int64}
/-- the way back: both pick the same stop at each place -/
theorem ce_rb (hd : xdat tkv opv shv shm wyv) (hct : ct ≤ 11) (hfe : ∀ k, k < ct → 1 ≤ fev k) {fm : Nat → Nat} (hff : ∀ k, k < ct → fm k = fev k) {dn ea base : Nat → Int64} (hT : q3_T tkv opv shm wyv bdv fm ct base (2 ^ ct) ea) (hR : ∀ s a, 1 ≤ s → s < 2 ^ ct → a < ct → s.testBit a = true → xrel 1100000 (dn (s * ct + a)) (ea (11 * s + a))) {z sn : Nat} :
    ∀ (n t b a : Nat) (du : Int64) (at_ : Int32) (u : Nat) (r1 r2 : Nat → Nat), u = z + n → (0 < n → at_ = nI a ∧ f0_leastLast tkv opv shv wyv bdv ct fev dn t b du = a ∧ q3_V ct ea n t a) → (∀ j, (j < z ∨ u ≤ j) → j < sn → r1 j = r2 j) →
      ∀ j, j < sn → (f0_readBack_lp tkv opv shv wyv bdv ct fev dn n t b du u r1).2.2.2.2 j = (f3_findExact_l3 tkv opv shm wyv bdv ct fm ea n t at_ u r2).2.2.2 j := by
  intro n
  induction n with
  | zero =>
    intro t b a du at_ u r1 r2 hu _ hr j hj
    exact hr j (by omega) hj
  | succ n ih =>
    intro t b a du at_ u r1 r2 hu h hr j hj
    obtain ⟨h1, h2, h3⟩ := h (by omega)
    subst h1
    have hV := h3
    obtain ⟨v1, v2, v3, v4, v5⟩ := h3
    unfold f0_readBack_lp f3_findExact_l3
    have hcl : cl (nI a) = a := cl_nI (by omega)
    rw [h2, hcl, bt_xor v1 (by omega) v2 v3, hff a v2]
    have e9 : (t &&& (2 ^ a ^^^ 4294967295)) = q3_clr t a := rfl
    rw [e9]
    have hclt := bt_clr_lt v1 (by omega) v2 v3
    have t1 : 1 ≤ t := by omega
    have hl4 := q3_l4c (tkv := tkv) (opv := opv) (shm := shm) (wyv := wyv) (bdv := bdv) (fev := fm) (eav := ea) (se := t) (aa := a) (ls := q3_clr t a) (fr := ct) (by omega) ct (-1) ct rfl (Nat.le_refl _) (Or.inl ⟨by decide, fun j h8 h9 => by omega⟩)
    have hfit : ∀ i, i < ct → (f0_fits tkv opv shv wyv bdv ct fev dn (q3_clr t a) i (fev a) (dn (t * ct + a)) = true ↔ q3_fit tkv opv shm wyv bdv fm ea (q3_clr t a) t a i) := by
      intro i hi
      rw [q0_fits]
      unfold q3_fit
      rw [bt_d, hff i hi, hff a v2]
      constructor
      · intro ⟨k1, k2⟩
        have hne : 1 ≤ q3_clr t a := by
          rcases Nat.eq_zero_or_pos (q3_clr t a) with z | z
          · rw [z, Nat.zero_testBit] at k1; cases k1
          · exact z
        exact ⟨k1, (xr_eq (xr_leg hd (hfe a v2) (hR _ i hne (by omega) hi k1)) (hR t a t1 v1 v2 v3) (by decide)).mp k2⟩
      · intro ⟨k1, k2⟩
        have hne : 1 ≤ q3_clr t a := by
          rcases Nat.eq_zero_or_pos (q3_clr t a) with z | z
          · rw [z, Nat.zero_testBit] at k1; cases k1
          · exact z
        exact ⟨k1, (xr_eq (xr_leg hd (hfe a v2) (hR _ i hne (by omega) hi k1)) (hR t a t1 v1 v2 v3) (by decide)).mpr k2⟩
    by_cases hn : 0 < n
    · obtain ⟨_, _, v9⟩ := q3_V1 hct hT n t a hV
      obtain ⟨p0, p1, p2⟩ := v9 hn
      rcases hl4 with ⟨_, w2⟩ | ⟨p, w1, w2, w3, w4⟩
      · exact absurd p2 (w2 p0 p1)
      · refine ih _ _ p _ _ _ _ _ (by omega) (fun _ => ⟨w1, ?_, q3_V2 hct hT n t a p hV hn w2 w3⟩) (fun j h8 h9 => ?_) j hj
        · unfold f0_leastLast
          exact q0_ll_s (ct - 1) 0 (by omega) (by omega) p (Nat.zero_le _) w2 ((hfit p w2).mpr w3) (fun i _ h8 h9 => w4 i h8 ((hfit i (by omega)).mp h9))
        · by_cases e : j = u - 1
          · subst e; rw [va_up_self, va_up_self]
          · rw [va_up_ne _ _ e, va_up_ne _ _ e]; exact hr j (by omega) h9
    · refine ih _ _ a _ _ _ _ _ (by omega) (fun z => absurd z hn) (fun j h8 h9 => ?_) j hj
      by_cases e : j = u - 1
      · subst e; rw [va_up_self, va_up_self]
      · rw [va_up_ne _ _ e, va_up_ne _ _ e]; exact hr j (by omega) h9
/-- the reference's last stop: the first of those that are home first -/
theorem q3_l2c {eav : Nat → Int64} {se fr : Nat} (hf : fr ≤ 20) : ∀ (n : Nat) (at_ : Int32) (fi : Int64) (u : Nat), u = n → u ≤ fr →
    (at_ < 0 ∧ fi = 4000000000000000000 ∧ (∀ j, u ≤ j → j < fr → 4000000000000000000 ≤ f3_wellHome wyv bdv (fev j) (eav (11 * se + j))) ∨ ∃ p, at_ = nI p ∧ u ≤ p ∧ p < fr ∧ fi = f3_wellHome wyv bdv (fev p) (eav (11 * se + p)) ∧ fi < 4000000000000000000 ∧ (∀ j, u ≤ j → j < fr → f3_wellHome wyv bdv (fev j) (eav (11 * se + j)) < 4000000000000000000 → fi ≤ f3_wellHome wyv bdv (fev j) (eav (11 * se + j))) ∧ ∀ j, u ≤ j → j < p → f3_wellHome wyv bdv (fev j) (eav (11 * se + j)) ≠ fi) →
    ((f3_findExact_l2 wyv bdv fev eav se n at_ fi u).1 < 0 ∧ (∀ j, j < fr → 4000000000000000000 ≤ f3_wellHome wyv bdv (fev j) (eav (11 * se + j))) ∨ ∃ p, (f3_findExact_l2 wyv bdv fev eav se n at_ fi u).1 = nI p ∧ p < fr ∧ f3_wellHome wyv bdv (fev p) (eav (11 * se + p)) < 4000000000000000000 ∧ (∀ j, j < fr → f3_wellHome wyv bdv (fev j) (eav (11 * se + j)) < 4000000000000000000 → f3_wellHome wyv bdv (fev p) (eav (11 * se + p)) ≤ f3_wellHome wyv bdv (fev j) (eav (11 * se + j))) ∧ ∀ j, j < p → f3_wellHome wyv bdv (fev j) (eav (11 * se + j)) ≠ f3_wellHome wyv bdv (fev p) (eav (11 * se + p))) := by
  intro n
  induction n with
  | zero =>
    intro at_ fi u h1 h2 h
    subst h1
    rcases h with ⟨a, b, c⟩ | ⟨p, a, b, c, d, e, f, g⟩
    · exact Or.inl ⟨a, fun j hj => c j (Nat.zero_le _) hj⟩
    · subst d
      exact Or.inr ⟨p, a, c, e, fun j hj => f j (Nat.zero_le _) hj, fun j hj => g j (Nat.zero_le _) hj⟩
  | succ n ih =>
    intro at_ fi u h1 h2 h
    unfold f3_findExact_l2
    refine ih _ _ _ (by omega) (by omega) ?_
    by_cases c1 : (4000000000000000000 : Int64) ≤ f3_wellHome wyv bdv (fev (u - 1)) (eav (11 * se + (u - 1)))
    · rw [if_pos c1, if_pos c1]
      rcases h with ⟨a, b, c⟩ | ⟨p, a, b, c, d, e, f, g⟩
      · refine Or.inl ⟨a, b, fun j h3 h4 => ?_⟩
        by_cases e2 : j = u - 1
        · subst e2; exact c1
        · exact c j (by omega) h4
      · refine Or.inr ⟨p, a, by omega, c, d, e, fun j h3 h4 h5 => ?_, fun j h3 h4 h5 => ?_⟩
        · by_cases e2 : j = u - 1
          · subst e2; exact absurd h5 (Int64.not_lt.mpr c1)
          · exact f j (by omega) h4 h5
        · by_cases e2 : j = u - 1
          · subst e2; rw [h5] at c1; exact absurd e (Int64.not_lt.mpr c1)
          · exact g j (by omega) h4 h5
    · rw [if_neg c1, if_neg c1]
      have c1' := Int64.not_le.mp c1
      by_cases c2 : fi < f3_wellHome wyv bdv (fev (u - 1)) (eav (11 * se + (u - 1)))
      · rw [if_pos c2, if_pos c2]
        rcases h with ⟨a, b, c⟩ | ⟨p, a, b, c, d, e, f, g⟩
        · rw [b] at c2; exact absurd c1' (Int64.not_lt.mpr (Int64.le_of_lt c2))
        · refine Or.inr ⟨p, a, by omega, c, d, e, fun j h3 h4 h5 => ?_, fun j h3 h4 h5 => ?_⟩
          · by_cases e2 : j = u - 1
            · subst e2; exact Int64.le_of_lt c2
            · exact f j (by omega) h4 h5
          · by_cases e2 : j = u - 1
            · subst e2; rw [h5] at c2; exact Int64.lt_irrefl c2
            · exact g j (by omega) h4 h5
      · rw [if_neg c2, if_neg c2]
        have c3 := Int64.not_lt.mp c2
        refine Or.inr ⟨u - 1, rfl, Nat.le_refl _, by omega, rfl, c1', fun j h3 h4 h5 => ?_, fun j h3 h4 => by omega⟩
        by_cases e2 : j = u - 1
        · subst e2; exact Int64.le_refl _
        · rcases h with ⟨a, b, c⟩ | ⟨p, a, b, c, d, e, f, g⟩
          · exact absurd h5 (Int64.not_lt.mpr (c j (by omega) h4))
          · exact Int64.le_trans c3 (f j (by omega) h4 h5)
theorem q3_T_c {base : Nat → Int64} {fr t : Nat} {ea : Nat → Int64} {fm : Nat → Nat} (hff : ∀ k, k < fr → fm k = fev k) (h : q3_T tkv opv shm wyv bdv fm fr base t ea) : q3_T tkv opv shm wyv bdv fev fr base t ea := by
  refine ⟨h.1, h.2.1, fun s a hs ha hb hc => ⟨fun hl => ?_, (h.2.2 s a hs ha hb hc).2⟩⟩
  obtain ⟨m1, m2, m3⟩ := (h.2.2 s a hs ha hb hc).1 hl
  refine ⟨m1, fun i hi hf => ?_, m3.imp id (fun ⟨i, i1, i2, i3⟩ => ⟨i, i1, i2, ?_⟩)⟩
  · rw [← hff i hi, ← hff a ha]; exact m2 i hi hf
  · rw [← hff i i1, ← hff a ha]; exact i3
theorem q3_T_no {base : Nat → Int64} {fr : Nat} {ea : Nat → Int64} (hf : fr ≤ 11) (h : q3_T tkv opv shm wyv bdv fev fr base (2 ^ fr) ea) (hb : ∀ a, a < fr → base a = 4000000000000000000) : ∀ N s a, s < N → s < 2 ^ fr → a < fr → ea (11 * s + a) = 4000000000000000000 := by
  intro N
  induction N with
  | zero => intro s a h1; omega
  | succ N ih =>
    intro s a h1 h2 ha
    cases hb2 : s.testBit a
    · exact h.1 s a h2 ha hb2
    · have hclt := bt_clr_lt h2 (by omega) ha hb2
      by_cases c : q3_clr s a = 0
      · have e : s = 2 ^ a := by
          have := bt_or_clr h2 (by omega) ha hb2
          rw [c, Nat.zero_or] at this
          exact this.symm
        rw [e, h.2.1 a ha]; exact hb a ha
      · rcases ((h.2.2 s a h2 ha hb2 c).1 (by omega)).2.2 with z | ⟨i, i1, i2, -⟩
        · exact z
        · have e := ih (q3_clr s a) i (by omega) (by omega) i1
          have i2' : ea (11 * q3_clr s a + i) < 4000000000000000000 := i2
          rw [e] at i2'
          exact absurd i2' Int64.lt_irrefl
theorem q3_l1s {icv : Nat → Nat} : ∀ (n : Nat) (ck : Int64) (la k : Nat) (rov : Nat → Nat), (f3_findExact_l1 tkv opv shm wyv bdv icv n ck la k rov).1 = (f3_spread_l1 tkv opv shm wyv bdv icv n ck la k).1 ∧ (f3_findExact_l1 tkv opv shm wyv bdv icv n ck la k rov).2.1 = (f3_spread_l1 tkv opv shm wyv bdv icv n ck la k).2.1 := by
  intro n
  induction n with
  | zero => intro ck la k rov; exact ⟨rfl, rfl⟩
  | succ n ih =>
    intro ck la k rov
    unfold f3_findExact_l1 f3_spread_l1
    exact ih _ _ _ _
/-- the exact search: the class's and the reference's -/
theorem ce_fill_core (hd : xdat tkv opv shv shm wyv) (hct : ct ≤ 11) (hfe : ∀ k, k < ct → 1 ≤ fev k) {fm : Nat → Nat} (hff : ∀ k, k < ct → fm k = fev k) {icv rov rm : Nat → Nat} {z sn : Nat} (hsz : z + ct = sn) (he : ∀ i, i < z → rov i = icv i ∧ 1 ≤ icv i) (hb0 : bdv 0 = false) {eav dnv : Nat → Int64} {dl : Nat} (hsta : f0_followFrozen_sta tkv opv shv wyv bdv rov z = sta) (hstc : f0_followFrozen_stc tkv opv shv wyv bdv rov z = stc) :
    (if stc = 1000000000000000 then false else (if f0_earliest tkv opv shv wyv bdv ct sta stc fev (f0_reckonSets_dnv tkv opv shv wyv bdv ct sta stc fev dl dnv) (2 ^ ct - 1) 0 = 1000000000000000 then false else true)) = f3_findExact sn tkv opv shm wyv bdv z icv ct fm eav rm ∧
    (f3_findExact sn tkv opv shm wyv bdv z icv ct fm eav rm = true → ∀ j, j < sn → f0_readBack_rov tkv opv shv wyv bdv ct fev (f0_reckonSets_dnv tkv opv shv wyv bdv ct sta stc fev dl dnv) rov z (f0_earliest tkv opv shv wyv bdv ct sta stc fev (f0_reckonSets_dnv tkv opv shv wyv bdv ct sta stc fev dl dnv) (2 ^ ct - 1) 0) j = f3_findExact_rov sn tkv opv shm wyv bdv z icv ct fm eav rm j) := by
  obtain ⟨x1, x2⟩ := xr_ff (bdv := bdv) hd he z 0 0 0 0 (by omega) (Or.inr ⟨rfl, 0, by decide, by decide⟩)
  have x1' : xrel 1100000 stc (f3_spread_l1 tkv opv shm wyv bdv icv z 0 0 0).1 := by rw [← hstc]; exact x1
  have x2' : sta = (f3_spread_l1 tkv opv shm wyv bdv icv z 0 0 0).2.1 := by rw [← hsta]; exact x2
  obtain ⟨y1, y2⟩ := xr_ne x1' (by decide)
  obtain ⟨l1, l2⟩ := q3_l1s (tkv := tkv) (opv := opv) (shm := shm) (wyv := wyv) (bdv := bdv) (icv := icv) z 0 0 0 rm
  have hl1 : ∀ k, k < z → (f3_findExact_l1 tkv opv shm wyv bdv icv z 0 0 0 rm).2.2.2 k = icv k := fun k hk => by rw [q3_fl1, if_pos (by omega)]
  have hT0 := q3_spread (tkv := tkv) (opv := opv) (shv := shm) (wyv := wyv) (bdv := bdv) (fev := fm) (icv := icv) (fz := z) hct eav
  have hC := q0_tab (tkv := tkv) (opv := opv) (shv := shv) (wyv := wyv) (bdv := bdv) (fev := fev) (sta := sta) (stc := stc) hct (dl := dl) (dnv := dnv)
  unfold f3_findExact f3_findExact_rov f0_readBack_rov
  generalize f0_reckonSets_dnv tkv opv shv wyv bdv ct sta stc fev dl dnv = dn at hC ⊢
  generalize f3_spread_eav tkv opv shm wyv bdv z icv ct fm eav = ea at hT0 ⊢
  rw [l1, l2, ← x2']
  have hbase : (fun a => f3_wellDone tkv opv shm wyv bdv (f3_spread_l1 tkv opv shm wyv bdv icv z 0 0 0).2.1 (fm a) (f3_spread_l1 tkv opv shm wyv bdv icv z 0 0 0).1) = fun a => f3_wellDone tkv opv shm wyv bdv sta (fm a) (f3_spread_l1 tkv opv shm wyv bdv icv z 0 0 0).1 := by rw [← x2']
  rw [hbase] at hT0
  generalize hck : (f3_spread_l1 tkv opv shm wyv bdv icv z 0 0 0).1 = ck at x1' y1 y2 hT0 ⊢
  by_cases c0 : ct = 0
  · subst c0
    have e0 : z = sn := by omega
    rw [if_pos rfl, if_pos rfl]
    have hearl : f0_earliest tkv opv shv wyv bdv 0 sta stc fev dn (2 ^ 0 - 1) 0 = f1_goodLeg tkv opv shv wyv bdv sta stc 0 := by unfold f0_earliest; rw [if_pos (by decide)]
    rw [hearl]
    obtain ⟨w1, w2⟩ := xr_ne (xr_home (bdv := bdv) hd (a := sta) x1') (by decide)
    refine ⟨?_, fun _ j hj => ?_⟩
    · by_cases c1 : stc = 1000000000000000
      · rw [if_pos c1, y1.mp c1, if_pos (Int64.le_refl _)]
      · obtain ⟨_, _, _, y6⟩ := y2 c1
        rw [if_neg c1, if_neg (Int64.not_le.mpr y6)]
        have nNM : ck ≠ 4000000000000000000 := fun q => by rw [q] at y6; exact Int64.lt_irrefl y6
        by_cases c2 : bdv (21 * sta) = true
        · have e1 : f3_wellHome wyv bdv sta ck = 4000000000000000000 := by unfold f3_wellHome; rw [if_neg nNM, if_pos c2]
          rw [if_pos (w1.mpr e1)]
          by_cases c3 : sn = 0
          · exfalso
            have : sta = 0 := by
              rw [x2']
              have hz : z = 0 := by omega
              subst hz; rfl
            rw [this] at c2
            rw [Nat.mul_zero, hb0] at c2
            cases c2
          · rw [if_neg c3, if_pos c2]
        · have e1 : f3_wellHome wyv bdv sta ck ≠ 4000000000000000000 := by
            intro q
            have hq := w1.mpr q
            obtain ⟨d1, d2, d3, d4, d5, d6, d7, d8⟩ := hd
            unfold f3_wellHome at q
            rw [if_neg nNM, if_neg c2] at q
            have hbn := bnd_add (y2 c1).2.1 (d5 (21 * sta))
            rw [(y2 c1).1] at hbn
            exact bnd_ne hbn (by decide) (by decide) (q.trans i64_NM)
          rw [if_neg (fun q => e1 (w1.mp q))]
          by_cases c3 : sn = 0
          · rw [if_pos c3]
          · rw [if_neg c3, if_neg c2]
    · have e1 : z + 0 - z = 0 := by omega
      rw [e1]
      show rov j = _
      rw [hl1 j (by omega)]
      exact (he j (by omega)).1
  · rw [if_neg c0, if_neg c0]
    have hp : 2 ≤ 2 ^ ct := by
      have := Nat.pow_le_pow_right (n := 2) (by decide) (show 1 ≤ ct by omega)
      simpa using this
    have hfull : ∀ j, j < ct → (2 ^ ct - 1).testBit j = true := fun j hj => by rw [Nat.testBit_two_pow_sub_one]; simp [hj]
    have hl2 := q3_l2c (wyv := wyv) (bdv := bdv) (fev := fm) (eav := ea) (se := 2 ^ ct - 1) (fr := ct) (by omega) ct (-1) 4000000000000000000 ct rfl (Nat.le_refl _) (Or.inl ⟨by decide, rfl, fun j h8 h9 => by omega⟩)
    by_cases c1 : stc = 1000000000000000
    · rw [if_pos c1]
      have hno := q3_T_no hct hT0 (fun a ha => by rw [y1.mp c1]; unfold f3_wellDone; rw [if_pos rfl]) (2 ^ ct) (2 ^ ct - 1)
      rcases hl2 with ⟨v1, v2⟩ | ⟨p, v1, v2, v3, v4, v5⟩
      · have n1 : ¬ (0 : Int32) ≤ (f3_findExact_l2 wyv bdv fm ea (2 ^ ct - 1) ct (-1) 4000000000000000000 ct).1 := Int32.not_le.mpr v1
        rw [if_neg n1]
        exact ⟨rfl, fun q => by cases q⟩
      · rw [hno p (by omega) (by omega) v2] at v3
        unfold f3_wellHome at v3
        rw [if_pos rfl] at v3
        exact absurd v3 Int64.lt_irrefl
    · rw [if_neg c1]
      have hR := xr_tab hd hct hfe x1' hC (q3_T_c hff (by
        refine ⟨hT0.1, fun a ha => ?_, hT0.2.2⟩
        have := hT0.2.1 a ha
        rw [this]
        show f3_wellDone tkv opv shm wyv bdv sta (fm a) ck = f3_wellDone tkv opv shm wyv bdv sta (fev a) ck
        rw [hff a ha]))
      have hR' : ∀ s a, 1 ≤ s → s < 2 ^ ct → a < ct → s.testBit a = true → xrel 1100000 (dn (s * ct + a)) (ea (11 * s + a)) := fun s a k1 k2 k3 k4 => hR (s + 1) s a (by omega) k1 k2 k3 k4
      obtain ⟨u1, u2, u3⟩ := q0_lp (tkv := tkv) (opv := opv) (shv := shv) (wyv := wyv) (bdv := bdv) (ct := ct) (t := 2 ^ ct - 1) (b := 0) (fev := fev) (dnv := dn) ct 1000000000000000 0
      have hgw : ∀ j, j < ct → (2 ^ ct - 1).testBit j = true → xrel 1200000 (f1_goodLeg tkv opv shv wyv bdv (fev j) (dn ((2 ^ ct - 1) * ct + j)) 0) (f3_wellHome wyv bdv (fm j) (ea (11 * (2 ^ ct - 1) + j))) := fun j hj hb => by
        rw [hff j hj]; exact xr_home hd (hR' _ j (by omega) (by omega) hj hb)
      have hearl : f0_earliest tkv opv shv wyv bdv ct sta stc fev dn (2 ^ ct - 1) 0 = (f0_earliest_lp tkv opv shv wyv bdv ct fev dn (2 ^ ct - 1) 0 ct 1000000000000000 0).1 := by unfold f0_earliest; rw [if_neg (by omega)]
      rw [hearl]
      generalize (f0_earliest_lp tkv opv shv wyv bdv ct fev dn (2 ^ ct - 1) 0 ct 1000000000000000 0).1 = home at u1 u2 u3 ⊢
      have u3' : home = 1000000000000000 ∨ ∃ j, j < ct ∧ (2 ^ ct - 1).testBit j = true ∧ home = f1_goodLeg tkv opv shv wyv bdv (fev j) (dn ((2 ^ ct - 1) * ct + j)) 0 := by
        rcases u3 with u3 | ⟨j, _, j2, j3, j4⟩
        · exact Or.inl u3
        · exact Or.inr ⟨j, by omega, j3, j4⟩
      rcases hl2 with ⟨v1, v2⟩ | ⟨p, v1, v2, v3, v4, v5⟩
      · have n1 : ¬ (0 : Int32) ≤ (f3_findExact_l2 wyv bdv fm ea (2 ^ ct - 1) ct (-1) 4000000000000000000 ct).1 := Int32.not_le.mpr v1
        have hx := xr_min (P := fun j => (2 ^ ct - 1).testBit j = true) (v := 4000000000000000000) (by decide) hgw u1 (fun j hj hb => u2 j (Nat.zero_le _) (by omega) hb) u3' (fun j hj hb hw => absurd hw (Int64.not_lt.mpr (v2 j hj))) (Or.inl rfl)
        rw [if_neg n1, if_pos ((xr_ne hx (by decide)).1.mpr rfl)]
        exact ⟨rfl, fun q => by cases q⟩
      · have hx := xr_min (P := fun j => (2 ^ ct - 1).testBit j = true) (v := f3_wellHome wyv bdv (fm p) (ea (11 * (2 ^ ct - 1) + p))) (by decide) hgw u1 (fun j hj hb => u2 j (Nat.zero_le _) (by omega) hb) u3' (fun j hj hb hw => v4 j hj hw) (Or.inr ⟨p, v2, hfull p v2, rfl⟩)
        have n1 : (0 : Int32) ≤ (f3_findExact_l2 wyv bdv fm ea (2 ^ ct - 1) ct (-1) 4000000000000000000 ct).1 := by rw [v1]; exact Int32.not_lt.mp (nI_pos (by omega))
        have n2 : home ≠ 1000000000000000 := fun q => by
          have := (xr_ne hx (by decide)).1.mp q
          rw [this] at v3; exact Int64.lt_irrefl v3
        rw [if_pos n1, if_neg n2]
        refine ⟨rfl, fun _ j hj => ?_⟩
        rw [if_pos n1]
        have e1 : z + ct - z = ct := by omega
        have e2 : sn - z = ct := by omega
        rw [e1, e2, hsz]
        have hfit : ∀ i, i < ct → (f0_fits tkv opv shv wyv bdv ct fev dn (2 ^ ct - 1) i 0 home = true ↔ f3_wellHome wyv bdv (fm i) (ea (11 * (2 ^ ct - 1) + i)) = f3_wellHome wyv bdv (fm p) (ea (11 * (2 ^ ct - 1) + p))) := by
          intro i hi
          rw [q0_fits]
          have := xr_eq (hgw i hi (hfull i hi)) hx (by decide)
          exact ⟨fun q => this.mp q.2, fun q => ⟨hfull i hi, this.mpr q⟩⟩
        refine ce_rb hd hct hfe hff hT0 hR' (z := z) (sn := sn) ct (2 ^ ct - 1) 0 p home _ sn rov _ (by omega) (fun _ => ⟨v1, ?_, q3_V0 v2 v3⟩) (fun j h8 h9 => ?_) j hj
        · unfold f0_leastLast
          exact q0_ll_s (ct - 1) 0 (by omega) (by omega) p (Nat.zero_le _) v2 ((hfit p v2).mpr rfl) (fun i _ h8 h9 => v5 i h8 ((hfit i (by omega)).mp h9))
        · rcases h8 with h8 | h8
          · rw [hl1 j h8]; exact (he j h8).1
          · omega
theorem ce_s1_c {z : Nat} {rov icv : Nat → Nat} (h : ∀ i, i < z → rov i = icv i) : ∀ (n k c : Nat) (f g : Nat → Nat), (∀ j, j < c → f j = g j) → (f3_solve_s1 z rov n k c f).2.1 = (f3_solve_s1 z icv n k c g).2.1 ∧ ∀ j, j < (f3_solve_s1 z rov n k c f).2.1 → (f3_solve_s1 z rov n k c f).2.2 j = (f3_solve_s1 z icv n k c g).2.2 j := by
  intro n
  induction n with
  | zero => intro k c f g h1; exact ⟨rfl, h1⟩
  | succ n ih =>
    intro k c f g h1
    unfold f3_solve_s1
    have e : f3_isFrozen z rov k = f3_isFrozen z icv k := by rw [← q0_holds]; exact q2_holds_c h
    rw [e]
    by_cases c1 : f3_isFrozen z icv k = true
    · simp only [if_pos c1]; exact ih _ _ _ _ h1
    · simp only [if_neg c1]
      refine ih _ _ _ _ (fun j hj => ?_)
      by_cases e2 : j = c
      · subst e2; rw [va_up_self, va_up_self]
      · rw [va_up_ne _ _ e2, va_up_ne _ _ e2]; exact h1 j (by omega)
/-- the exact search as the two methods do it -/
theorem ce_fill (hd : xdat tkv opv shv shm wyv) {z sn : Nat} {rov icv rm f g : Nat → Nat} (hri : q_row z sn icv) (he : ∀ i, i < z → rov i = icv i) (hb0 : bdv 0 = false) {eav dnv : Nat → Int64} {dl : Nat} (h11 : (f3_solve_s1 z icv sn 1 0 g).2.1 ≤ 11) :
    f0_fill sn tkv opv shv wyv bdv f dl dnv rov z = f3_findExact sn tkv opv shm wyv bdv z icv (f3_solve_s1 z icv sn 1 0 g).2.1 (f3_solve_s1 z icv sn 1 0 g).2.2 eav rm ∧
    (f0_fill sn tkv opv shv wyv bdv f dl dnv rov z = true → ∀ j, j < sn → f0_fill_rov sn tkv opv shv wyv bdv f dl dnv rov z j = f3_findExact_rov sn tkv opv shm wyv bdv z icv (f3_solve_s1 z icv sn 1 0 g).2.1 (f3_solve_s1 z icv sn 1 0 g).2.2 eav rm j) := by
  have hri2 : q_row z sn rov := qr_ext he hri
  obtain ⟨a1, a2, a3⟩ := q3_free (fev := f) hri2
  obtain ⟨b1, b2⟩ := ce_s1_c he sn 1 0 f g (fun j hj => by omega)
  have hs : sn - z ≤ 11 := by omega
  obtain ⟨c1, c2⟩ := q0_free (fev := f) hri2 hs
  have key := ce_fill_core (bdv := bdv) hd (ct := (f3_solve_s1 z rov sn 1 0 f).2.1) (by omega) (fev := (f3_solve_s1 z rov sn 1 0 f).2.2) (fun k hk => (a2 k hk).1) (fm := (f3_solve_s1 z icv sn 1 0 g).2.2) (fun k hk => (b2 k hk).symm) (icv := icv) (rov := rov) (rm := rm) (z := z) (sn := sn) (by omega) (fun i hi => ⟨he i hi, (hri.1 i hi).1⟩) hb0 (eav := eav) (dnv := dnv) (dl := dl) rfl rfl
  rw [b1] at key
  unfold f0_fill f0_fill_rov
  rw [if_pos hs, if_pos hs, c1, c2, b1]
  refine ⟨key.1, fun h j hj => ?_⟩
  rw [key.1] at h
  have h2 := key.1.trans h
  have d1 : ¬ f0_followFrozen_stc tkv opv shv wyv bdv rov z = 1000000000000000 := fun q => by rw [if_pos q] at h2; cases h2
  rw [if_neg d1] at h2 ⊢
  rw [if_neg (fun q => by rw [if_pos q] at h2; cases h2)]
  exact key.2 h j hj
end CEZ

