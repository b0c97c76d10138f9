/-- what the law's own at() answers, and leaves in its row of one -/
def fL_at (ln : Int32) (x : Int32) : Int32 := if x < 0 ∨ ¬ x < ln then 1 else 0
def fL_at_lov (ln : Int32) (rov : Nat → Nat) (lov : Nat → Int64) (x : Int32) : Nat → Int64 := if x < 0 ∨ ¬ x < ln then lov else va_up lov 0 (nI (rov (cl x))).toInt64
def gz_MW (l : Launch) (y : MethodName) (cc : ByteArray) (nL : Nat) (ret : Option FieldType) (hh : List (Nat × Nat × Nat × Nat)) (rm : Room) (D : va_G) (tys : List (ClassId × FieldType)) (av : List Value) (ws : va_W) (ov : Option Value) (ws2 : va_W) (mc ms : Nat) : Prop := ∀ sz : Nat, Met l y (.codeWith y cc nL ret hh :: WB) rm (va_Pc av (fun U => gz_P D tys ws sz U ∧ ZT U)) (gz_Q D tys ov ws2 (va_A ws sz)) mc ms (va_A ws sz)
theorem q2_lnx {ln x : Int32} {rl : Nat} (hln : ln = (-1) ∧ rl = 0 ∨ ln = nI rl) (hr20 : rl ≤ 20) (h : ¬ (x < 0 ∨ ¬ x < ln)) : ln = nI rl ∧ x = nI (cl x) ∧ cl x < rl := by
  have h0 : ¬ x < 0 := fun z => h (Or.inl z)
  have h1 : x < ln := Classical.byContradiction fun z => h (Or.inr z)
  have h2 := cl_of h0
  have h3 := cl_lt x h0
  rcases hln with ⟨rfl, -⟩ | rfl
  · exfalso
    rw [h2] at h1
    have h4 : nI (cl x) < 0 := Int32.lt_of_lt_of_le h1 (by decide)
    exact absurd h4 (nI_pos h3)
  · refine ⟨rfl, h2, ?_⟩
    rw [h2] at h1
    exact (nI_ltI h3 (by omega)).mp h1
set_option maxRecDepth 100000 in
set_option maxHeartbeats 4000000 in
theorem kL_at (l : Launch) (hfl : l.flags = flags0) (D : va_G) (xo : Nat) (nt : Nat) (es : Nat) (ro : Nat) (ad : Nat → Nat) (cI : ClassId) (cJ : ClassId) (cZ : ClassId) (ln : Int32) (fz : Nat) (sx : Bool) (mo : Int32) (sn : Nat) (bw : Int32) (tkv : Nat → Int64) (opv : Nat → Int64) (shv : Nat → Int64) (ldv : Nat → Int32) (wyv : Nat → Int64) (bdv : Nat → Bool) (ct : Nat) (dA : Nat) (sta : Nat) (stc : Int64) (fev : Nat → Nat) (dl : Nat) (dnv : Nat → Int64) (rov : Nat → Nat) (rl : Nat) (lo : Nat) (lov : Nat → Int64) (x : Int32) (hln : ln = (-1) ∧ rl = 0 ∨ ln = nI rl) (hr20 : rl ≤ 20) : gz_MW l yL_at cL_at 4 (some .int) [(0, 9, 12, 13)] ({ frames := 8, cells := 1, slots := 6, locals := 140 } : Room) D [(cI, .int), (cJ, .long), (cZ, .boolean)] [.ref xo, .int x, .ref lo] ((wC xo nt es ro ad cI cJ cZ ln fz sx mo sn bw tkv opv shv ldv wyv bdv ct dA dA sta stc fev dl dnv rov) ++ [(lo, .inl (cJ, 1, .inr (.inl lov)))]) (some (.int (fL_at ln x))) ((wC xo nt es ro ad cI cJ cZ ln fz sx mo sn bw tkv opv shv ldv wyv bdv ct dA dA sta stc fev dl dnv rov) ++ [(lo, .inl (cJ, 1, .inr (.inl (fL_at_lov ln rov lov x))))]) 1 6 := by
  intro sz
  refine va_MetW (cc := cL_at) (maxL := 4) (ret := some .int) (hh := [(0, 9, 12, 13)]) (by decide) rfl ?_
  intro p e s m args below meth c s₁ B hml hv
  obtain ⟨rfl, ⟨hsz, hP, hK, hD0, hNw⟩, hZ⟩ := hv
  have hts := atoms_spec (ws := .codeWith yL_at cL_at 4 (some .int) [(0, 9, 12, 13)] :: WB) B.pre
  subst hsz
  have hl := lv_entry [.ref xo, .int x, .ref lo] (n := 4) (Nat.le_of_ble_eq_true rfl)
  rw [lg_entry_eq]
  have C : gz_C p s m ([Value.ref xo, .int x, .ref lo] : List Value).toArray c cL_at 4 RL D [(cI, .int), (cJ, .long), (cZ, .boolean)] (va_A ((wC xo nt es ro ad cI cJ cZ ln fz sx mo sn bw tkv opv shv ldv wyv bdv ct dA dA sta stc fev dl dnv rov) ++ [(lo, .inl (cJ, 1, .inr (.inl lov)))]) s.heap.size) := ⟨B.exec, B.bytes, hml, findClass_of_methodNamed B.named, fun w hw => hts w (List.mem_cons_of_mem _ hw), hK, fun q h => Or.inr h, hNw⟩
  have hk : meth.locks = false := B.notSynchronized
  have hr : meth.sig.returnType = some .int := B.returns
  by_cases hx : x < 0 ∨ ¬ x < ln
  · obtain ⟨m9, meth9, c9, hn9, hm9, hc9, -, -, hex9, -⟩ := Cond.codeWith_spec (hts _ List.mem_cons_self)
    cases B.named.symm.trans hn9
    cases B.method.symm.trans hm9
    have hcc : c = c9 := Option.some.inj ((Stand.of_body B).code.symm.trans hc9)
    subst hcc
    have hsp : ∃ xe : ExceptionTableEntry, c.exceptionTable.toList = [xe] ∧ xe.startPc = 0 ∧ xe.endPc = 9 ∧ xe.handlerPc = 12 ∧ xe.catchType = 13 := by
      cases hq : c.exceptionTable.toList with
      | nil => rw [hq] at hex9; simp at hex9
      | cons a t =>
        rw [hq] at hex9
        simp only [List.map_cons, List.cons.injEq, Prod.mk.injEq, List.map_eq_nil_iff] at hex9
        obtain ⟨⟨i1, i2, i3, i4⟩, i5⟩ := hex9
        exact ⟨a, by rw [i5], i1, i2, i3, i4⟩
    obtain ⟨xe, hs1, j1, j2, j3, j4⟩ := hsp
    have hft : e.platform.stackTraces = false := Launch.traces_off hfl (Stand.of_body B).admits
    refine lv_aload_n C.1 C.2.1 dL_at_0 rfl (lv_at hl 2 rfl) ?_
    refine lv_iconst (v := 0) C.1 C.2.1 dL_at_1 (by decide) ?_
    refine lv_aload_n C.1 C.2.1 dL_at_2 rfl (lv_at hl 0 rfl) ?_
    refine lv_iload_n C.1 C.2.1 dL_at_3 rfl (lv_at hl 1 rfl) ?_
    refine z_callAt (rest := [.int 0, .ref lo]) hft C hZ hs1 (by rw [j4]; decide) (by simp [covers, j1, j2]) (by rw [j4]; exact wk_297) wk_298 hP rfl hl.1 hx (Nat.le_of_ble_eq_true rfl) dL_at_4 ⟨by decide, by decide, by decide, by decide⟩ (fun H' a hle hkp => ?_)
    rw [j3]
    have hkP : ∀ (k : Nat) (q : Nat × va_E), ((wC xo nt es ro ad cI cJ cZ ln fz sx mo sn bw tkv opv shv ldv wyv bdv ct dA dA sta stc fev dl dnv rov) ++ [(lo, .inl (cJ, 1, .inr (.inl lov)))])[k]? = some q → H'[q.1]? = s.heap[q.1]? := fun k q hq => by
      have hlt := (hP k q hq).lt
      rw [hkp q.1 _ (Array.getElem?_eq_getElem hlt), Array.getElem?_eq_getElem hlt]
    have hGZ : GZ p l e ({ frames := 8, cells := 1, slots := 6, locals := 140 } : Room) s m ([Value.ref xo, .int x, .ref lo] : List Value).toArray below meth c 4 D (va_A ((wC xo nt es ro ad cI cJ cZ ln fz sx mo sn bw tkv opv shv ldv wyv bdv ct dA dA sta stc fev dl dnv rov) ++ [(lo, .inl (cJ, 1, .inr (.inl lov)))]) s.heap.size) 1 6 (MQ below (gz_Q D [(cI, .int), (cJ, .long), (cZ, .boolean)] (some (.int (fL_at ln x))) ((wC xo nt es ro ad cI cJ cZ ln fz sx mo sn bw tkv opv shv ldv wyv bdv ct dA dA sta stc fev dl dnv rov) ++ [(lo, .inl (cJ, 1, .inr (.inl (fL_at_lov ln rov lov x))))]) (va_A ((wC xo nt es ro ad cI cJ cZ ln fz sx mo sn bw tkv opv shv ldv wyv bdv ct dA dA sta stc fev dl dnv rov) ++ [(lo, .inl (cJ, 1, .inr (.inl lov)))]) s.heap.size)) ([Value.ref xo, .int x, .ref lo] : List Value).toArray s 1 6 (va_A ((wC xo nt es ro ad cI cJ cZ ln fz sx mo sn bw tkv opv shv ldv wyv bdv ct dA dA sta stc fev dl dnv rov) ++ [(lo, .inl (cJ, 1, .inr (.inl lov)))]) s.heap.size)) ((wC xo nt es ro ad cI cJ cZ ln fz sx mo sn bw tkv opv shv ldv wyv bdv ct dA dA sta stc fev dl dnv rov) ++ [(lo, .inl (cJ, 1, .inr (.inl lov)))]) [(0, .ref xo), (1, .int x), (2, .ref lo)] [.ref a] 12 := by
      refine gz_astore_n (lv2 := [(3, .ref a), (0, .ref xo), (1, .int x), (2, .ref lo)]) C dL_at_12 (by decide) rfl ?_
      refine gz_iconst (v := 1) C dL_at_13 (by decide) ?_
      exact gz_iret C hr hk (by simp only [fL_at, if_pos hx]) (by simp only [fL_at_lov, if_pos hx]) (Nat.le_refl _) (Nat.le_refl _) dL_at_14
    exact hGZ H' [] _ (hP.kept hkP) hD0.self ⟨hle, fun q h1 _ => by rw [hkp q _ (Array.getElem?_eq_getElem h1), Array.getElem?_eq_getElem h1], fun _ h => absurd h List.not_mem_nil⟩ hl
  · obtain ⟨h1, h2, h3⟩ := q2_lnx hln hr20 hx
    have hGZ : GZ p l e ({ frames := 8, cells := 1, slots := 6, locals := 140 } : Room) s m ([Value.ref xo, .int x, .ref lo] : List Value).toArray below meth c 4 D (va_A ((wC xo nt es ro ad cI cJ cZ ln fz sx mo sn bw tkv opv shv ldv wyv bdv ct dA dA sta stc fev dl dnv rov) ++ [(lo, .inl (cJ, 1, .inr (.inl lov)))]) s.heap.size) 0 0 (MQ below (gz_Q D [(cI, .int), (cJ, .long), (cZ, .boolean)] (some (.int (fL_at ln x))) ((wC xo nt es ro ad cI cJ cZ ln fz sx mo sn bw tkv opv shv ldv wyv bdv ct dA dA sta stc fev dl dnv rov) ++ [(lo, .inl (cJ, 1, .inr (.inl (fL_at_lov ln rov lov x))))]) (va_A ((wC xo nt es ro ad cI cJ cZ ln fz sx mo sn bw tkv opv shv ldv wyv bdv ct dA dA sta stc fev dl dnv rov) ++ [(lo, .inl (cJ, 1, .inr (.inl lov)))]) s.heap.size)) ([Value.ref xo, .int x, .ref lo] : List Value).toArray s 1 6 (va_A ((wC xo nt es ro ad cI cJ cZ ln fz sx mo sn bw tkv opv shv ldv wyv bdv ct dA dA sta stc fev dl dnv rov) ++ [(lo, .inl (cJ, 1, .inr (.inl lov)))]) s.heap.size)) ((wC xo nt es ro ad cI cJ cZ ln fz sx mo sn bw tkv opv shv ldv wyv bdv ct dA dA sta stc fev dl dnv rov) ++ [(lo, .inl (cJ, 1, .inr (.inl lov)))]) [(0, .ref xo), (1, .int x), (2, .ref lo)] [] 0 := by
      refine gz_aload_n C 2 dL_at_0 rfl ?_
      refine gz_iconst (v := nI 0) C dL_at_1 (by decide) ?_
      refine gz_aload_n C 0 dL_at_2 rfl ?_
      refine gz_iload_n C 1 dL_at_3 rfl ?_
      refine gz_sw (v := .int x) (w := .int (nI (cl x))) (by rw [← h2]) ?_
      refine gz_callV (wr := [(lo, .inl (cJ, 1, .inr (.inl lov)))]) (n := 1) (ws2 := [(lo, .inl (cJ, 1, .inr (.inl lov)))] ++ (wC xo nt es ro ad cI cJ cZ ln fz sx mo sn bw tkv opv shv ldv wyv bdv ct dA dA sta stc fev dl dnv rov)) (st2 := [.int (f2_at rov (cl x)), .int (nI 0), .ref lo]) (cells2 := 0) (slots2 := 0) (ci := 3) C (kX2_at l D xo nt es ro ad cI cJ cZ ln fz sx mo sn bw tkv opv shv ldv wyv bdv ct dA sta stc fev dl dnv rov (cl x) rl h1 hr20 h3) (WB_V wk_298 wk_299 wk_300 wk_1 wk_301) (by decide +kernel) ⟨⟨rfl, rfl⟩, by decide, by decide⟩ [0, 1, 2, 3, 4, 5, 6, 7, 8, 9, 10, 11] [12] [0, 1, 2] rfl rfl rfl (by decide) rfl 0 rfl rfl rfl rfl (Nat.le_of_ble_eq_true rfl) dL_at_4 ⟨Nat.zero_le _, Nat.zero_le _⟩ rfl rfl rfl ?_
      refine gz_ws (ws2 := ((wC xo nt es ro ad cI cJ cZ ln fz sx mo sn bw tkv opv shv ldv wyv bdv ct dA dA sta stc fev dl dnv rov) ++ [(lo, .inl (cJ, 1, .inr (.inl lov)))])) [1, 2, 3, 4, 5, 6, 7, 8, 9, 10, 11, 12, 0] (by decide) rfl ?_
      refine gz_i2l (v := (nI (rov (cl x))).toInt64) C dL_at_7 rfl ?_
      refine gz_last (ws2 := ((wC xo nt es ro ad cI cJ cZ ln fz sx mo sn bw tkv opv shv ldv wyv bdv ct dA dA sta stc fev dl dnv rov) ++ [(lo, .inl (cJ, 1, .inr (.inl (va_up lov 0 (nI (rov (cl x))).toInt64))))])) C 12 1 rfl rfl (by decide) (by decide) rfl dL_at_8 ?_
      refine gz_goto C 15 dL_at_9 (by decide) ?_
      refine gz_iconst (v := 0) C dL_at_15 (by decide) ?_
      exact gz_iret C hr hk (by simp only [fL_at, if_neg hx]) (by simp only [fL_at_lov, if_neg hx]) (by decide) (by decide) dL_at_16
    exact hGZ s.heap [] _ hP hD0.self va_S.rf hl

