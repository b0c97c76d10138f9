section LWK
variable {p : Program} {l : Launch} {e : Env} {R : Room} {s : State} {m : MethodId} {args : Array Value} {below : List Frame} {meth : Method} {c : Code} {cells slots : Nat} {Q : State → Prop}
variable {cc : ByteArray} {pc nL : Nat} {own : String} {D : va_G} {tys : List (ClassId × FieldType)} {A : Nat → Prop} {ws ws2 : va_W} {lv lv2 : List (Nat × Value)} {st : List Value}
/-- the law's own script -/
def lwX (b L : Nat) (xs : Nat → Int32) (s : State) (A : Nat → Prop) : Prop := va_X b L xs s s.heap ∧ b < s.heap.size ∧ ¬ A b ∧ L ≤ 3584
theorem gz_sld (C : gz_C p s m args c cc nL own D tys A) {b L : Nat} {xs : Nat → Int32} (hX : lwX b L xs s A) {k : Nat} (hk : k < L) (hdg : decode cc pc = .ok (.iaload, 1)) (kk : GZ p l e R s m args below meth c nL D A cells slots Q ws lv (.int (xs k) :: st) (pc + 1)) : GZ p l e R s m args below meth c nL D A cells slots Q ws lv (.int (nI k) :: .ref b :: st) pc := by
  intro H locs ls hP hD hS hl
  have h9 := kk H locs ls hP hD hS hl
  have hk2 : k < 2 ^ 31 := by have := hX.2.2.2; omega
  have e9 : (nI k).toNatClampNeg = k := nI_clamp hk2
  refine va_sld C.1 C.2.1 hX.1 hX.2.1 hX.2.2.1 hS (vp_in_nI hk (by have := hX.2.2.2; omega)) hdg ?_
  rw [e9]
  exact h9
theorem gz_slen (C : gz_C p s m args c cc nL own D tys A) {b L : Nat} {xs : Nat → Int32} (hX : lwX b L xs s A) (hdg : decode cc pc = .ok (.arraylength, 1)) (kk : GZ p l e R s m args below meth c nL D A cells slots Q ws lv (.int (nI L) :: st) (pc + 1)) : GZ p l e R s m args below meth c nL D A cells slots Q ws lv (.ref b :: st) pc := by
  intro H locs ls hP hD hS hl
  exact va_slen C.1 C.2.1 hX.1 hX.2.1 hX.2.2.1 hS hdg (kk H locs ls hP hD hS hl)
theorem gz_tabIn (C : gz_C p s m args c cc nL own D tys A) {dflt lo hi : Int} {offs : Array Int} {len : Nat} {x : Int32} {off : Int} (tgt : Nat) (hdg : decode cc pc = .ok (.tableswitch dflt lo hi offs, len)) (h1 : ¬ x.toInt < lo) (h2 : ¬ hi < x.toInt) (ho : offs[(x.toInt - lo).toNat]? = some off) (ht : (pc : Int) + off = (tgt : Int)) (kk : GZ p l e R s m args below meth c nL D A cells slots Q ws lv st tgt) : GZ p l e R s m args below meth c nL D A cells slots Q ws lv (.int x :: st) pc :=
  fun H locs ls hP hD hS hl => lv_tableIn C.1 C.2.1 hdg h1 h2 ho ht (kk H locs ls hP hD hS hl)
theorem gz_tabOut (C : gz_C p s m args c cc nL own D tys A) {dflt lo hi : Int} {offs : Array Int} {len : Nat} {x : Int32} (tgt : Nat) (hdg : decode cc pc = .ok (.tableswitch dflt lo hi offs, len)) (h : x.toInt < lo ∨ hi < x.toInt) (ht : (pc : Int) + dflt = (tgt : Int)) (kk : GZ p l e R s m args below meth c nL D A cells slots Q ws lv st tgt) : GZ p l e R s m args below meth c nL D A cells slots Q ws lv (.int x :: st) pc :=
  fun H locs ls hP hD hS hl => lv_tableOut C.1 C.2.1 hdg h ht (kk H locs ls hP hD hS hl)
/-- a call of a static method with an exception table -/
theorem gz_callSW (C : gz_C p s m args c cc nL own D tys A) {y : MethodName} {rm : Room} {mc ms : Nat} {ov : Option Value} {ret : Option FieldType} {cc2 : ByteArray} {nL2 index n : Nat} {hh : List (Nat × Nat × Nat × Nat)} {As rest : List Value} {wc w1 wr : va_W} {tys1 : List (ClassId × FieldType)} (hM : gz_MW l y cc2 nL2 ret hh rm D tys1 As wc ov w1 mc ms)
    (hZ : ZT s) (hA : ∀ q : Nat, A q → s.heap.size ≤ q) (hcode : Cond.codeWith y cc2 nL2 ret hh ∈ WB) (hlink : Cond.methodLink own index y ∈ WB) (hstat : Cond.static y ∈ WB) (hini : Cond.initialized y.cls ∈ WB)
    (hd : y.cls ≠ "java/lang/invoke/MethodHandle" ∧ y.cls ≠ "java/lang/invoke/VarHandle" ∧ (parseMethodDescriptor y.desc).map (fun d => d.parameters.length) = some n) (hR0 : (rm.cells = mc ∧ rm.slots = ms) ∧ rm.frames + 1 ≤ R.frames ∧ 8 + (nL2 + 11) + rm.locals ≤ R.locals)
    (isC isR isT : List Nat) (hC : isC.map (fun i => ws[i]?) = wc.map some) (hR : isR.map (fun i => ws[i]?) = wr.map some) (hT : isT.filterMap (fun i => tys[i]?) = tys1) (hn : va_nd isC = true ∧ va_nd isR = true ∧ ∀ i ∈ isR, i ∉ isC) (h2 : wr ++ w1 = ws2)
    (hlen : As.length = n) (hst : st = As.reverse ++ rest) (hrs : (rest.map fun v => v.category).sum ≤ 8) (hdg : decode cc pc = .ok (.invokestatic index, 3)) (hf : cells + mc ≤ R.cells ∧ slots + ms ≤ R.slots) {st2 : List Value} (h3 : ov.toList ++ rest = st2) {cells2 slots2 : Nat} (hc2 : cells + mc = cells2) (hs2 : slots + ms = slots2)
    (kk : GZ p l e R s m args below meth c nL D A cells2 slots2 Q ws2 lv st2 (pc + 3)) : GZ p l e R s m args below meth c nL D A cells slots Q ws lv st pc := by
  subst h3; subst hc2; subst hs2
  intro H locs ls hP hD hS hl
  have hPc : va_P D vwCl wc H := hP.sub isC (by have h3 := congrArg (List.filterMap id) hC; simpa [List.filterMap_map, Function.comp] using h3)
  have hDc := hD.sub isC hn.1 hC
  have hKc := C.2.2.2.2.2.1.sub isT hT
  have hold : ∀ (q : Nat) (x : Cell), s.heap[q]? = some x → H[q]? = some x := fun q x h => by
    have hq : q < s.heap.size := (Array.getElem?_eq_some_iff.mp h).1
    rw [hS.2.1 q hq (fun z => by have := hA q z; omega)]; exact h
  have hwd := C.2.2.2.2.1
  have hws : ∀ w ∈ (Cond.codeWith y cc2 nL2 ret hh :: WB), ∀ (a' : Array Value) (U : State), s.WarmedH U.vm → w.before a' U = true := fun w hw a' U hW => by
    rcases List.mem_cons.mp hw with q | q
    · rw [q]; exact pay_in hwd WB_good _ hcode _ _ hW
    · exact pay_in hwd WB_good _ q _ _ hW
  have hbl : FrameBlind (va_Pc As (fun U => gz_P D tys1 wc H.size U ∧ ZT U)) := fun a U g mk q => by
    obtain ⟨q0, ⟨q1, qP, qK, qD, qN⟩, qZ⟩ := q
    exact ⟨q0, ⟨q1, qP, va_K.moved (u := U) (U := U.calling g mk a) (Vm.Alike.refl U.vm) qK, qD, NWs_same (u := U) rfl qN⟩, ZT.to (U := U.calling g mk a) (State.WarmedH.refl U) (fun _ _ h => h) qZ⟩
  have hK : Back l R p e below s args y 3 8 (PreOf R mc ms (va_Pc As (fun U => gz_P D tys1 wc H.size U ∧ ZT U))) (PostOf (gz_Q D tys1 ov w1 (va_A wc H.size)) mc ms (va_A wc H.size)) :=
    va_backW (hh := hh) (bytes := cc2) (maxL := nL2) (ret := ret) (hM H.size) hbl hR0.1.1 hR0.1.2 hR0.2.1 hR0.2.2 hws List.mem_cons_self (fun a' U hW => pay_in hwd WB_good _ hini _ _ hW)
  have hrun : va_Run p l e R s m args below meth c H locs cells slots mc ms (F0 m pc ls st) rest (gz_Q D tys1 ov w1 (va_A wc H.size) As.toArray) (va_A wc H.size) := by
    intro T hT0 X
    obtain ⟨mk, methM, cM, hnamed, hmethM, -, -, -, -, -, -, hsigM⟩ := Cond.codeWith_spec (hwd _ hcode)
    have hstatic : methM.isStatic = true := Cond.static_spec hnamed hmethM (hwd _ hstat)
    obtain ⟨kP, hkP, -⟩ := className_of_methodNamed hnamed
    have hinitP : kP.init = .initialized := Cond.initialized_spec (findClass_of_methodNamed hnamed) hkP (hwd _ hini)
    obtain ⟨vm₁, X₁, hstep₁⟩ := X.invokestatic (g := F0 m pc ls st) C.1 C.2.2.2.1 (hwd _ hlink) hnamed hmethM hstatic hkP hinitP ⟨hd.1, hd.2.1⟩ rfl (argsL := As) (rest := rest) (by
      have h9 := hd.2.2
      rw [hsigM] at h9
      rw [hlen]
      exact (Option.some.inj h9).symm) hst (by rw [C.2.1]; exact hdg)
    obtain ⟨v, ⟨U', l2, c2, s2⟩, X', hpost, hsteps⟩ := hK m meth c ⟨T.setVm vm₁, locs, cells, slots⟩ (F0 m pc ls rest) (.invokestatic index) mk As.toArray X₁ rfl (hl.1.trans C.2.2.1.symm) (by rw [C.2.1]; exact hdg) (lv_room hrs) (X₁.named hnamed) ⟨hf.1, hf.2, rfl, ⟨by show T.heap.size = _; rw [hT0], by show va_P D vwCl wc T.heap; rw [hT0]; exact hPc, va_K.moved X₁.warmed.alike hKc, hDc.weaken (fun _ _ _ _ => trivial), NWs_warm X₁.warmed C.2.2.2.2.2.2.2⟩, ZT.to X₁.warmed (fun q x h => by show T.heap[q]? = _; rw [hT0]; exact hold q x h) hZ⟩
    obtain ⟨g', mk', t, L, e1, e2, hq, h1, hL, h2', h3'⟩ := hpost
    dsimp only [Pt.U, Pt.locs, Pt.cells, Pt.slots] at X' e1 e2 h1 h2' h3' hsteps
    subst h1; subst h2'; subst h3'
    exact ⟨v, (T.setVm vm₁).calling g' mk' As.toArray, t, U', L, hT0, X', hL, e1, e2, hq, fun target h => hstep₁ _ fun acts => by rw [doInvoke_state]; exact hsteps.trans h⟩
  exact gz_back isC isR hC hR hn.2.1 hn.2.2 h2 C.2.2.2.2.2.2.1 hP hD hS hl hrun kk
end LWK
theorem z_arr {args : Array Value} {s : State} {ty : FieldType} (h : (Cond.arrayClass ty).before args s = true) : ∃ cA : ClassId, ArrOfT s cA ty ∧ s.vm.findClass ("[" ++ ty.toString) = some cA := by
  obtain ⟨cA, kA, comp, h1, h2, h3⟩ := Cond.arrayClass_spec h
  exact ⟨cA, fun n z => ⟨fun k h => (by cases h), kA, h2, comp, h3⟩, h1⟩
theorem lw_and15 (x : Int32) : ∃ k : Nat, k ≤ 15 ∧ x &&& nI 15 = nI k := by
  refine ⟨(x &&& nI 15).toBitVec.toNat, ?_, ?_⟩
  · have h : (x &&& nI 15).toBitVec.toNat = x.toBitVec.toNat &&& 15 := by
      rw [Int32.toBitVec_and, BitVec.toNat_and]; rfl
    rw [h]; exact Nat.and_le_right
  · apply Int32.toBitVec_inj.mp
    show _ = (Int32.ofNat _).toBitVec
    rw [Int32.toBitVec_ofNat', BitVec.ofNat_toNat, BitVec.setWidth_eq]
theorem lw_cmp {i L : Nat} (hi : i ≤ 4000) (hL : L ≤ 3584) : (nI L - nI 7 < nI i) ↔ L < i + 7 := by
  have h7 : (nI 7).toInt = 7 := by decide
  have hLt : (nI L).toInt = L := Int32.toInt_ofNat_of_lt (by omega)
  have hit : (nI i).toInt = i := Int32.toInt_ofNat_of_lt (by omega)
  have e : (nI L - nI 7).toInt = (L : Int) - 7 := by
    rw [Int32.toInt_sub, h7, hLt]
    have e2 : (2 ^ 32 : Nat) = 4294967296 := by decide
    rw [e2]
    simp only [Int.bmod_def]
    split <;> omega
  rw [Int32.lt_iff_toInt_lt, e, hit]
  omega

