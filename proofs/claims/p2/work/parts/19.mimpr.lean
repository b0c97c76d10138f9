theorem q3_better_le {tkv opv shv wyv : Nat → Int64} {bdv : Nat → Bool} {rs i j : Nat} {rov : Nat → Nat} {B : Nat} (h : ∀ k, k < rs → rov k ≤ B) (hi : i < rs) (hj : j < rs) : ∀ k, k < rs → f3_better_rov tkv opv shv wyv bdv rs rov i j k ≤ B := by
  unfold f3_better_rov
  (repeat' split) <;> first | exact q3_turn_le h hi hj | exact q3_turn_le (q3_turn_le h hi hj) hi hj

def f3_improve_lp (tkv : Nat → Int64) (opv : Nat → Int64) (shv : Nat → Int64) (wyv : Nat → Int64) (bdv : Nat → Bool) (fz : Nat) (rs : Nat) : Nat → Int64 → Nat → Nat → (Nat → Nat) → Int64 × Nat × Nat × (Nat → Nat)
  | 0, lf, i, j, rov => (lf, i, j, rov)
  | n + 1, lf, i, j, rov => if rs ≤ (i + 1) then (lf, i, j, rov) else if (f3_better tkv opv shv wyv bdv rs rov i j) = true then f3_improve_lp tkv opv shv wyv bdv fz rs n (lf - 1) fz (fz + 1) (f3_better_rov tkv opv shv wyv bdv rs rov i j) else f3_improve_lp tkv opv shv wyv bdv fz rs n (lf - 1) ((if (j + 1) = rs then i + 1 else i)) ((if (j + 1) = rs then ((if (j + 1) = rs then i + 1 else i)) + 1 else j + 1)) (f3_better_rov tkv opv shv wyv bdv rs rov i j)
set_option maxRecDepth 100000 in
set_option maxHeartbeats 4000000 in
theorem lX3_improve_lp {p : Program} {l : Launch} {e : Env} {R : Room} {s : State} {m : MethodId} {args : Array Value} {below : List Frame} {meth : Method} {c : Code} {cells slots : Nat} {Q : State → Prop} {A : Nat → Prop} {D : va_G} (h : Nat) (ad : Nat → Nat) (cI : ClassId) (cJ : ClassId) (cZ : ClassId) (thr : Int32) (sn : Nat) (tkv : Nat → Int64) (opv : Nat → Int64) (shv : Nat → Int64) (ldv : Nat → Int32) (lim : Int32) (wyv : Nat → Int64) (bdv : Nat → Bool) (isr : Bool) (rn : Nat) (rdv : Nat → Nat) (fz : Nat) (icv : Nat → Nat) (exa : Bool) (fr : Nat) (fev : Nat → Nat) (eav : Nat → Int64) (rs : Nat) (hrs : rs ≤ 20) (hfz : fz ≤ 20) (hR : 2 ≤ R.frames ∧ 54 ≤ R.locals) (hce : cells ≤ R.cells ∧ slots ≤ R.slots) (C : gz_C p s m args c cX3_improve 7 RX3 D [(cI, .int), (cJ, .long), (cZ, .boolean)] A) : ∀ (n : Nat) (lf : Int64) (i : Nat) (j : Nat) (rov : Nat → Nat), (lf = lN n ∧ n ≤ 100000) → (i ≤ 20 ∧ i < j ∧ (i + 1 < rs → j < rs)) → (∀ k, k < rs → rov k ≤ 20) → ((((f3_improve_lp tkv opv shv wyv bdv fz rs n lf i j rov).2.1) ≤ 20 ∧ ((f3_improve_lp tkv opv shv wyv bdv fz rs n lf i j rov).2.1) < ((f3_improve_lp tkv opv shv wyv bdv fz rs n lf i j rov).2.2.1) ∧ (((f3_improve_lp tkv opv shv wyv bdv fz rs n lf i j rov).2.1) + 1 < rs → ((f3_improve_lp tkv opv shv wyv bdv fz rs n lf i j rov).2.2.1) < rs)) → (∀ k, k < rs → ((f3_improve_lp tkv opv shv wyv bdv fz rs n lf i j rov).2.2.2) k ≤ 20) → GZ p l e R s m args below meth c 7 D A cells slots Q (wM h ad cI cJ cZ thr sn tkv opv shv ldv lim wyv bdv isr rn rdv fz icv exa fr fev eav rs ((f3_improve_lp tkv opv shv wyv bdv fz rs n lf i j rov).2.2.2)) [(0, .ref h), (3, .long ((f3_improve_lp tkv opv shv wyv bdv fz rs n lf i j rov).1)), (5, .int (nI ((f3_improve_lp tkv opv shv wyv bdv fz rs n lf i j rov).2.1))), (6, .int (nI ((f3_improve_lp tkv opv shv wyv bdv fz rs n lf i j rov).2.2.1)))] [] 111) → GZ p l e R s m args below meth c 7 D A cells slots Q (wM h ad cI cJ cZ thr sn tkv opv shv ldv lim wyv bdv isr rn rdv fz icv exa fr fev eav rs rov) [(0, .ref h), (3, .long lf), (5, .int (nI i)), (6, .int (nI j))] [] 16 := by
  intro n
  induction n with
  | zero =>
    intro lf i j rov hme hij hro hx
    refine gz_lload_n C 1 dX3_improve_16 rfl ?_
    refine gz_lconst (v := 0) C dX3_improve_17 (by decide) ?_
    refine gz_lcmp_le C 111 dX3_improve_18 dX3_improve_19 (by decide) (fun h_1 => ?_) (fun h_1 => ?_)
    · skip
      exact gz_lv [0, 1, 2, 3] rfl (hx hij hro)
    · have g_1 : ¬ (lf ≤ 0) := h_1
      exact absurd (by rw [hme.1]; decide) g_1
  | succ n ih =>
    intro lf i j rov hme hij hro hx
    refine gz_lload_n C 1 dX3_improve_16 rfl ?_
    refine gz_lconst (v := 0) C dX3_improve_17 (by decide) ?_
    refine gz_lcmp_le C 111 dX3_improve_18 dX3_improve_19 (by decide) (fun h_1 => ?_) (fun h_1 => ?_)
    · skip
      exact absurd ((lN_le (by omega) (by decide)).mp (hme.1 ▸ h_1 : lN (n + 1) ≤ lN 0)) (by omega)
    · have g_1 : ¬ (lf ≤ 0) := h_1
      refine gz_iload C 2 dX3_improve_22 rfl ?_
      refine gz_iconst (v := nI 1) C dX3_improve_24 (by decide) ?_
      refine gz_iadd (v := nI (i + 1)) C dX3_improve_25 (nI_add _ _) ?_
      refine gz_aload_n C 0 dX3_improve_26 rfl ?_
      refine gz_get (ci := 4) C iwX3 0 rfl rfl 18 (by decide) wk_398 rfl rfl dX3_improve_27 ?_
      refine gz_ncmp_ge C 111 (by omega) (by omega) dX3_improve_30 (by decide) (fun h_2 => ?_) (fun h_2 => ?_)
      · skip
        simp only [f3_improve_lp, if_neg g_1, if_pos h_2] at hx
        exact gz_lv [0, 1, 2, 3] rfl (hx hij hro)
      · have g_2 : ¬ (rs ≤ (i + 1)) := (Nat.not_le.mpr h_2)
        refine gz_lload_n C 1 dX3_improve_33 rfl ?_
        refine gz_lconst (v := 1) C dX3_improve_34 (by decide) ?_
        refine gz_lsub (v := lf - 1) C dX3_improve_35 rfl ?_
        refine gz_lstore_n (lv2 := [(3, .long (lf - 1)), (0, .ref h), (5, .int (nI i)), (6, .int (nI j))]) C dX3_improve_36 (by decide) rfl ?_
        refine gz_aload_n C 1 dX3_improve_37 rfl ?_
        refine gz_iload C 2 dX3_improve_38 rfl ?_
        refine gz_iload C 3 dX3_improve_40 rfl ?_
        refine gz_callV (wr := []) (n := 2) (ws2 := (wM h ad cI cJ cZ thr sn tkv opv shv ldv lim wyv bdv isr rn rdv fz icv exa fr fev eav rs (f3_better_rov tkv opv shv wyv bdv rs rov i j))) (st2 := [.int (bI (f3_better tkv opv shv wyv bdv rs rov i j))]) (cells2 := cells) (slots2 := slots) (ci := 4) C (kX3_better l D h ad cI cJ cZ thr sn tkv opv shv ldv lim wyv bdv isr rn rdv fz icv exa fr fev eav rs rov i j (by first | assumption | omega) (by first | assumption | omega) (by first | assumption | omega) (by first | assumption | omega)) (WB_V wk_519 wk_521 ws_29 wk_4 wk_522) (by decide +kernel) ⟨⟨rfl, rfl⟩, Nat.le_trans (by decide) hR.1, Nat.le_trans (by decide) hR.2⟩ [0, 1, 2, 3, 4, 5, 6, 7, 8, 9, 10, 11] [] [0, 1, 2] rfl rfl rfl (by decide) rfl 0 rfl rfl rfl rfl (Nat.le_of_ble_eq_true rfl) dX3_improve_42 hce rfl rfl rfl ?_
        refine gz_bif_eq C 65 dX3_improve_45 (by decide) (fun h_3 => ?_) (fun h_3 => ?_)
        · have g_3 : ¬ ((f3_better tkv opv shv wyv bdv rs rov i j) = true) := (by rw [h_3]; decide)
          refine gz_iinc (v := nI (j + 1)) (lv2 := [(6, .int (nI (j + 1))), (3, .long (lf - 1)), (0, .ref h), (5, .int (nI i))]) (k := 3) C dX3_improve_65 rfl (nI_add _ 1) (by decide) rfl ?_
          refine gz_iload C 0 dX3_improve_68 rfl ?_
          refine gz_aload_n C 2 dX3_improve_70 rfl ?_
          refine gz_get (ci := 4) C iwX3 0 rfl rfl 18 (by decide) wk_398 rfl rfl dX3_improve_71 ?_
          refine gz_J (ws2 := (wM h ad cI cJ cZ thr sn tkv opv shv ldv lim wyv bdv isr rn rdv fz icv exa fr fev eav rs (f3_better_rov tkv opv shv wyv bdv rs rov i j))) (lv2 := [(6, .int (nI (j + 1))), (3, .long (lf - 1)), (0, .ref h), (5, .int (nI i))]) (st2 := [.int (nI ((if (j + 1) = rs then i + 1 else i)))]) (pc2 := 86) ?_ (fun J_4 => ?_)
          rotate_left
          · refine gz_ncmp_ne C 84 (by omega) (by omega) dX3_improve_74 (by decide) (fun h_4 => ?_) (fun h_4 => ?_)
            · have g_4 : ¬ ((j + 1) = rs) := h_4
              refine gz_iload C 3 dX3_improve_84 rfl ?_
              simp only [if_neg g_4] at J_4 ⊢
              exact gz_lv [0, 1, 2, 3] rfl J_4
            · skip
              refine gz_iload C 3 dX3_improve_77 rfl ?_
              refine gz_iconst (v := nI 1) C dX3_improve_79 (by decide) ?_
              refine gz_iadd (v := nI (i + 1)) C dX3_improve_80 (nI_add _ _) ?_
              refine gz_goto C 86 dX3_improve_81 (by decide) ?_
              simp only [if_pos h_4] at J_4 ⊢
              exact gz_lv [0, 1, 2, 3] rfl J_4
          refine gz_istore (lv2 := [(5, .int (nI ((if (j + 1) = rs then i + 1 else i)))), (6, .int (nI (j + 1))), (3, .long (lf - 1)), (0, .ref h)]) C dX3_improve_86 (by decide) rfl ?_
          refine gz_iload C 1 dX3_improve_88 rfl ?_
          refine gz_aload_n C 3 dX3_improve_90 rfl ?_
          refine gz_get (ci := 4) C iwX3 0 rfl rfl 18 (by decide) wk_398 rfl rfl dX3_improve_91 ?_
          refine gz_J (ws2 := (wM h ad cI cJ cZ thr sn tkv opv shv ldv lim wyv bdv isr rn rdv fz icv exa fr fev eav rs (f3_better_rov tkv opv shv wyv bdv rs rov i j))) (lv2 := [(5, .int (nI ((if (j + 1) = rs then i + 1 else i)))), (6, .int (nI (j + 1))), (3, .long (lf - 1)), (0, .ref h)]) (st2 := [.int (nI ((if (j + 1) = rs then ((if (j + 1) = rs then i + 1 else i)) + 1 else j + 1)))]) (pc2 := 106) ?_ (fun J_5 => ?_)
          rotate_left
          · refine gz_ncmp_ne C 104 (by omega) (by omega) dX3_improve_94 (by decide) (fun h_5 => ?_) (fun h_5 => ?_)
            · have g_5 : ¬ ((j + 1) = rs) := h_5
              refine gz_iload C 1 dX3_improve_104 rfl ?_
              simp only [if_neg g_5] at J_5 ⊢
              exact gz_lv [0, 1, 2, 3] rfl J_5
            · skip
              refine gz_iload C 0 dX3_improve_97 rfl ?_
              refine gz_iconst (v := nI 1) C dX3_improve_99 (by decide) ?_
              refine gz_iadd (v := nI (((if (j + 1) = rs then i + 1 else i)) + 1)) C dX3_improve_100 (nI_add _ _) ?_
              refine gz_goto C 106 dX3_improve_101 (by decide) ?_
              simp only [if_pos h_5] at J_5 ⊢
              exact gz_lv [0, 1, 2, 3] rfl J_5
          refine gz_istore (lv2 := [(6, .int (nI ((if (j + 1) = rs then ((if (j + 1) = rs then i + 1 else i)) + 1 else j + 1)))), (5, .int (nI ((if (j + 1) = rs then i + 1 else i)))), (3, .long (lf - 1)), (0, .ref h)]) C dX3_improve_106 (by decide) rfl ?_
          refine gz_goto C 16 dX3_improve_108 (by decide) ?_
          refine gz_lv [3, 2, 1, 0] rfl ?_
          simp only [f3_improve_lp, if_neg g_1, if_neg g_2, if_neg g_3] at hx
          exact ih (lf - 1) ((if (j + 1) = rs then i + 1 else i)) ((if (j + 1) = rs then ((if (j + 1) = rs then i + 1 else i)) + 1 else j + 1)) (f3_better_rov tkv opv shv wyv bdv rs rov i j) ⟨by rw [hme.1]; exact lN_sub (a := n + 1) (b := 1) (by omega), by omega⟩ (by first | omega | ((repeat' split) <;> omega)) (q3_better_le hro (by omega) (by omega)) hx
        · skip
          refine gz_aload_n C 1 dX3_improve_48 rfl ?_
          refine gz_get (ci := 4) C iwX3 0 rfl rfl 12 (by decide) wk_392 rfl rfl dX3_improve_49 ?_
          refine gz_istore (lv2 := [(5, .int (nI fz)), (3, .long (lf - 1)), (0, .ref h), (6, .int (nI j))]) C dX3_improve_52 (by decide) rfl ?_
          refine gz_aload_n C 2 dX3_improve_54 rfl ?_
          refine gz_get (ci := 4) C iwX3 0 rfl rfl 12 (by decide) wk_392 rfl rfl dX3_improve_55 ?_
          refine gz_iconst (v := nI 1) C dX3_improve_58 (by decide) ?_
          refine gz_iadd (v := nI (fz + 1)) C dX3_improve_59 (nI_add _ _) ?_
          refine gz_istore (lv2 := [(6, .int (nI (fz + 1))), (5, .int (nI fz)), (3, .long (lf - 1)), (0, .ref h)]) C dX3_improve_60 (by decide) rfl ?_
          refine gz_goto C 16 dX3_improve_62 (by decide) ?_
          refine gz_lv [3, 2, 1, 0] rfl ?_
          simp only [f3_improve_lp, if_neg g_1, if_neg g_2, if_pos h_3] at hx
          exact ih (lf - 1) fz (fz + 1) (f3_better_rov tkv opv shv wyv bdv rs rov i j) ⟨by rw [hme.1]; exact lN_sub (a := n + 1) (b := 1) (by omega), by omega⟩ (by first | omega | ((repeat' split) <;> omega)) (q3_better_le hro (by omega) (by omega)) hx

def f3_improve_rov (tkv : Nat → Int64) (opv : Nat → Int64) (shv : Nat → Int64) (wyv : Nat → Int64) (bdv : Nat → Bool) (fz : Nat) (rs : Nat) (rov : Nat → Nat) (stp : Int64) : Nat → Nat := (f3_improve_lp tkv opv shv wyv bdv fz rs (cN stp) stp fz (fz + 1) rov).2.2.2
set_option maxRecDepth 100000 in
set_option maxHeartbeats 4000000 in
theorem kX3_improve (l : Launch) (D : va_G) (h : Nat) (ad : Nat → Nat) (cI : ClassId) (cJ : ClassId) (cZ : ClassId) (thr : Int32) (sn : Nat) (tkv : Nat → Int64) (opv : Nat → Int64) (shv : Nat → Int64) (ldv : Nat → Int32) (lim : Int32) (wyv : Nat → Int64) (bdv : Nat → Bool) (isr : Bool) (rn : Nat) (rdv : Nat → Nat) (fz : Nat) (icv : Nat → Nat) (exa : Bool) (fr : Nat) (fev : Nat → Nat) (eav : Nat → Int64) (rs : Nat) (rov : Nat → Nat) (stp : Int64) (hrs : rs ≤ 20) (hro : ∀ k, k < rs → rov k ≤ 20) (hfz : fz ≤ 20) (hst1 : ¬ stp < 0) (hst2 : stp ≤ 100000) : gz_M l yX3_improve cX3_improve 7 none ({ frames := 2, cells := 0, slots := 0, locals := 54 } : Room) D [(cI, .int), (cJ, .long), (cZ, .boolean)] [.ref h, .long stp] (wM h ad cI cJ cZ thr sn tkv opv shv ldv lim wyv bdv isr rn rdv fz icv exa fr fev eav rs rov) (none) (wM h ad cI cJ cZ thr sn tkv opv shv ldv lim wyv bdv isr rn rdv fz icv exa fr fev eav rs (f3_improve_rov tkv opv shv wyv bdv fz rs rov stp)) 0 0 := by
  refine gz_met l (by decide) (Nat.le_of_ble_eq_true rfl) [(0, .ref h), (1, .long stp)] rfl ?_
  intro sz p e s m args below meth c C hr hk hnm
  have C : gz_C p s m args c cX3_improve 7 RX3 D [(cI, .int), (cJ, .long), (cZ, .boolean)] (va_A (wM h ad cI cJ cZ thr sn tkv opv shv ldv lim wyv bdv isr rn rdv fz icv exa fr fev eav rs rov) sz) := C
  refine gz_lload_n C 1 dX3_improve_0 rfl ?_
  refine gz_lstore_n (lv2 := [(3, .long stp), (0, .ref h), (1, .long stp)]) C dX3_improve_1 (by decide) rfl ?_
  refine gz_aload_n C 1 dX3_improve_2 rfl ?_
  refine gz_get (ci := 4) C iwX3 0 rfl rfl 12 (by decide) wk_392 rfl rfl dX3_improve_3 ?_
  refine gz_istore (lv2 := [(5, .int (nI fz)), (3, .long stp), (0, .ref h), (1, .long stp)]) C dX3_improve_6 (by decide) rfl ?_
  refine gz_aload_n C 2 dX3_improve_8 rfl ?_
  refine gz_get (ci := 4) C iwX3 0 rfl rfl 12 (by decide) wk_392 rfl rfl dX3_improve_9 ?_
  refine gz_iconst (v := nI 1) C dX3_improve_12 (by decide) ?_
  refine gz_iadd (v := nI (fz + 1)) C dX3_improve_13 (nI_add _ _) ?_
  refine gz_istore (lv2 := [(6, .int (nI (fz + 1))), (5, .int (nI fz)), (3, .long stp), (0, .ref h), (1, .long stp)]) C dX3_improve_14 (by decide) rfl ?_
  refine gz_lv (lv2 := [(0, .ref h), (3, .long stp), (5, .int (nI fz)), (6, .int (nI (fz + 1)))]) [3, 2, 1, 0] rfl ?_
  refine lX3_improve_lp h ad cI cJ cZ thr sn tkv opv shv ldv lim wyv bdv isr rn rdv fz icv exa fr fev eav rs (by first | assumption | omega) (by first | assumption | omega) ⟨Nat.le_of_ble_eq_true rfl, Nat.le_of_ble_eq_true rfl⟩ ⟨Nat.zero_le _, Nat.zero_le _⟩ C (cN stp) stp fz (fz + 1) rov (cN_of hst1 hst2) (by omega) (by first | assumption | omega) ?_
  intro zhij_lp zhro_lp
  exact gz_vret C hr hk (by first | rfl | (simp only [f3_improve_rov]) | (simp only [f3_improve_rov]; rfl)) (by first | rfl | (simp only [f3_improve_rov]) | (simp only [f3_improve_rov]; rfl)) (Nat.le_refl _) (Nat.le_refl _) dX3_improve_111

