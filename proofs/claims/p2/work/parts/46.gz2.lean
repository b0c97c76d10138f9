theorem va_RA_inj {U : State} {c1 c2 : ClassId} {ty : FieldType} (h1 : va_RA U c1 ty) (h2 : va_RA U c2 ty) : c1 = c2 := by
  cases ty with
  | object C =>
    obtain ⟨_, _, _, _, _, a⟩ := h1
    obtain ⟨_, _, _, _, _, b⟩ := h2
    exact Option.some.inj (a.symm.trans b)
  | _ =>
    have a : U.vm.findClass _ = some c1 := h1
    have b : U.vm.findClass _ = some c2 := h2
    exact Option.some.inj (a.symm.trans b)
/-- what a constructor does: the world is one of f's -/
def gz_QX {S : Type} (D : va_G) (tys : List (ClassId × FieldType)) (ov : Option Value) (f : S → va_W) (A : Nat → Prop) : Array Value → State → Outcome → State → Prop := fun _ s oc t => oc = .returned ov ∧ (∃ u, va_P D vwCl (f u) t.heap ∧ va_K D vwCl tys t ∧ va_D A (f u)) ∧ va_F A s t
def gz_MX {S : Type} (l : Launch) (y : MethodName) (cc : ByteArray) (nL : Nat) (ret : Option FieldType) (rm : Room) (D : va_G) (tys : List (ClassId × FieldType)) (av : List Value) (ws : va_W) (ov : Option Value) (f : S → va_W) (mc ms : Nat) : Prop := ∀ sz : Nat, Met l y (.code y cc nL ret :: WB) rm (va_Pc av (gz_P D tys ws sz)) (gz_QX D tys ov f (va_A ws sz)) mc ms (va_A ws sz)
theorem gz_metX {S : Type} (l : Launch) {y : MethodName} {cc : ByteArray} {nL : Nat} {ret : Option FieldType} {ov : Option Value} {rm : Room} {D : va_G} {tys : List (ClassId × FieldType)} {av : List Value} {ws : va_W} {f : S → va_W} {mc ms : Nat} (hy : plainName y.cls = true) (hlen : (lg_sl av).length ≤ nL) (lv : List (Nat × Value)) (hlv : lv_args 0 av = lv)
    (body : ∀ (sz : Nat) (p : Program) (e : Env) (s : State) (m : MethodId) (args : Array Value) (below : List Frame) (meth : Method) (c : Code), gz_C p s m args c cc nL y.cls D tys (va_A ws sz) → meth.sig.returnType = ret → meth.locks = false → meth.name = y.name → GZ p l e rm s m args below meth c nL D (va_A ws sz) 0 0 (MQ below (gz_QX D tys ov f (va_A ws sz)) args s mc ms (va_A ws sz)) ws lv [] 0) : gz_MX l y cc nL ret rm D tys av ws ov f mc ms := by
  intro sz
  refine Met.ofW (cc := cc) (maxL := nL) (ret := ret) hy rfl ?_
  intro p e s m args below meth c s₁ B hml hv
  obtain ⟨rfl, hsz, hP, hK, hD0, hNw⟩ := hv
  have hts := atoms_spec (ws := .code y cc nL ret :: WB) B.pre
  subst hsz
  subst hlv
  have hl := lv_entry av (n := nL) hlen
  rw [lg_entry_eq]
  exact body s.heap.size p e s m _ below meth c ⟨B.exec, B.bytes, hml, findClass_of_methodNamed B.named, fun w hw => hts w (List.mem_cons_of_mem _ hw), hK, fun q h => Or.inr h, hNw⟩ B.returns B.notSynchronized (name_of_methodNamed B.named B.method).1 s.heap [] _ hP hD0.self va_S.rf hl
section GZ2
variable {p : Program} {l : Launch} {e : Env} {R : Room} {s : State} {m : MethodId} {args : Array Value} {below : List Frame} {meth : Method} {c : Code} {cells slots : Nat} {Q : State → Prop}
variable {cc : ByteArray} {pc nL : Nat} {own : String} {D : va_G} {tys : List (ClassId × FieldType)} {A : Nat → Prop} {ws ws2 : va_W} {lv lv2 : List (Nat × Value)} {st : List Value}
/-- a new array of a class of arrays that is known -/
theorem gz_newa (C : gz_C p s m args c cc nL own D tys A) {atype : ArrayType} (harr : Cond.arrayClass (newarray.typeOf atype) ∈ WB) (t0 : Nat) {cA : ClassId} (ht : tys[t0]? = some (cA, newarray.typeOf atype)) {N : Nat} {a0 : vp_A} (ha : ∀ cA : ClassId, vp_cell cA a0 = arrV cA N (fun _ => defaultValue (newarray.typeOf atype))) (hN : N < 2 ^ 31) (hbytes : N * componentBytes (newarray.typeOf atype) ≤ 536870912) (hcells : cells + 1 ≤ R.cells) (hslots : slots + N ≤ R.slots) (hdg : decode cc pc = .ok (.newarray atype, 2))
    (kk : ∀ q : Nat, GZ p l e R s m args below meth c nL D A (cells + 1) (slots + N) Q (ws ++ [(q, .inl (cA, a0))]) lv (.ref q :: st) (pc + 2)) : GZ p l e R s m args below meth c nL D A cells slots Q ws lv (.int (nI N) :: st) pc := by
  intro H locs ls hP hD hS hl
  refine va_newa C.1 C.2.1 (C.2.2.2.2.1 _ harr) rfl C.2.2.2.2.2.1 hP hD hS C.2.2.2.2.2.2.1 ha (nI_pos hN) (nI_clamp hN) hbytes hcells hslots hdg (fun q cB H1 hK1 hP1 hD1 hS1 => ?_)
  have h1 := (C.2.2.2.2.2.1.2 t0 _ ht).2
  have h2 := (hK1.2 tys.length (cB, newarray.typeOf atype) (by simp)).2
  have e := va_RA_inj h1 h2
  subst e
  exact kk q H1 locs ls hP1 hD1 hS1 hl
theorem gz_new (C : gz_C p s m args c cc nL own D tys A) {CN : String} {T : u_T} {N ci index : Nat} (hin : ∀ w ∈ u_ws CN T N, w ∈ WB) (ty : Nat → FieldType) (hty : ∀ k, k < N → parseFieldDescriptor (T k).2.2.1 = some (ty k)) (hcl : Cond.classLink own index CN ∈ WB) (hinst : Cond.instantiable CN N ∈ WB) (hini : Cond.initialized CN ∈ WB) (hc : vwCl[ci]? = some (CN, T, N)) {fs : List Value} (hfs : ∀ j, j < N → defaultValue (ty j) = vp_V fs j) (hcells : cells + 1 ≤ R.cells) (hslots : slots + N ≤ R.slots) (hdg : decode cc pc = .ok (.new index, 3))
    (kk : ∀ q : Nat, GZ p l e R s m args below meth c nL D A (cells + 1) (slots + N) Q (ws ++ [(q, .inr (ci, fs))]) lv (.ref q :: st) (pc + 3)) : GZ p l e R s m args below meth c nL D A cells slots Q ws lv st pc := by
  intro H locs ls hP hD hS hl
  exact va_new C.1 C.2.1 C.2.2.2.2.1 hin ty hty C.2.2.2.1 (C.2.2.2.2.1 _ hcl) (C.2.2.2.2.1 _ hinst) (C.2.2.2.2.1 _ hini) C.2.2.2.2.2.1 hP hD hS C.2.2.2.2.2.2.1 hc hfs hcells hslots hdg (fun q H1 hP1 hD1 hS1 => kk q H1 locs ls hP1 hD1 hS1 hl)
theorem gz_objInit (C : gz_C p s m args c cc nL own D tys A) {idx : Nat} {a : Nat} (h1 : Cond.methodLink own idx Lib.objectInit ∈ WB) (h2 : Cond.instanceMethod Lib.objectInit ∈ WB) (h3 : Cond.code Lib.objectInit ⟨#[0xb1]⟩ 1 none ∈ WB) (hd : decode cc pc = .ok (.invokespecial idx, 3)) (hf : 1 ≤ R.frames) (hlo : (st.map fun v => v.category).sum + 12 ≤ R.locals)
    (kk : GZ p l e R s m args below meth c nL D A cells slots Q ws lv st (pc + 3)) : GZ p l e R s m args below meth c nL D A cells slots Q ws lv (.ref a :: st) pc := by
  intro H locs ls hP hD hS hl
  refine W.objInit C.1 C.2.1 C.2.2.2.1 (C.2.2.2.2.1 _ h1) (C.2.2.2.2.1 _ h2) (C.2.2.2.2.1 _ h3) rfl (hl.1.trans C.2.2.1.symm) rfl hd hf (by show 2 * 0 + _ + 12 ≤ _; omega) ?_
  exact kk H locs ls hP hD hS hl
variable {y : MethodName} {rm : Room} {mc ms : Nat} {S : Type} {f : S → va_W} {ov : Option Value} {ret : Option FieldType}
theorem gz_iretX (C : gz_C p s m args c cc nL own D tys A) {v : Int32} (hr : meth.sig.returnType = some .int) (hk : meth.locks = false) (hov : some (.int v) = ov) (u : S) (hws : ws = f u) (hc : cells ≤ mc) (hs : slots ≤ ms) (hdg : decode cc pc = .ok (.ireturn, 1)) : GZ p l e R s m args below meth c nL D A cells slots (MQ below (gz_QX D tys ov f A) args s mc ms A) ws lv [.int v] pc := by
  intro H locs ls hP hD hS hl
  subst hov; subst hws
  refine W.widen hc hs ?_
  exact W.iret (v := v) C.1 C.2.1 hr (fun t ht hW => ⟨rfl, ⟨u, by rw [ht]; exact hP, va_K.moved hW.alike C.2.2.2.2.2.1, hD⟩, hS.F ht⟩) hS.2.2 hdg hk
theorem gz_zretX (C : gz_C p s m args c cc nL own D tys A) {v : Int32} (hr : meth.sig.returnType = some .boolean) (hk : meth.locks = false) (hn : narrow .boolean (.int v) = .int v) (hov : some (.int v) = ov) (u : S) (hws : ws = f u) (hc : cells ≤ mc) (hs : slots ≤ ms) (hdg : decode cc pc = .ok (.ireturn, 1)) : GZ p l e R s m args below meth c nL D A cells slots (MQ below (gz_QX D tys ov f A) args s mc ms A) ws lv [.int v] pc := by
  intro H locs ls hP hD hS hl
  subst hov; subst hws
  refine W.widen hc hs ?_
  exact W.zret (v := v) C.1 C.2.1 hr hn (fun t ht hW => ⟨rfl, ⟨u, by rw [ht]; exact hP, va_K.moved hW.alike C.2.2.2.2.2.1, hD⟩, hS.F ht⟩) hS.2.2 hdg hk
theorem gz_lretX (C : gz_C p s m args c cc nL own D tys A) {v : Int64} (hr : meth.sig.returnType = some .long) (hk : meth.locks = false) (hov : some (.long v) = ov) (u : S) (hws : ws = f u) (hc : cells ≤ mc) (hs : slots ≤ ms) (hdg : decode cc pc = .ok (.lreturn, 1)) : GZ p l e R s m args below meth c nL D A cells slots (MQ below (gz_QX D tys ov f A) args s mc ms A) ws lv [.long v] pc := by
  intro H locs ls hP hD hS hl
  subst hov; subst hws
  refine W.widen hc hs ?_
  exact W.lret (v := v) C.1 C.2.1 hr (fun t ht hW => ⟨rfl, ⟨u, by rw [ht]; exact hP, va_K.moved hW.alike C.2.2.2.2.2.1, hD⟩, hS.F ht⟩) hS.2.2 hdg hk
theorem gz_vretX (C : gz_C p s m args c cc nL own D tys A) (hr : meth.sig.returnType = none) (hk : meth.locks = false) (hov : none = ov) (u : S) (hws : ws = f u) (hc : cells ≤ mc) (hs : slots ≤ ms) (hdg : decode cc pc = .ok (.return_, 1)) : GZ p l e R s m args below meth c nL D A cells slots (MQ below (gz_QX D tys ov f A) args s mc ms A) ws lv [] pc := by
  intro H locs ls hP hD hS hl
  subst hov; subst hws
  refine W.widen hc hs ?_
  exact W.vret C.1 C.2.1 hr (fun t ht hW => ⟨rfl, ⟨u, by rw [ht]; exact hP, va_K.moved hW.alike C.2.2.2.2.2.1, hD⟩, hS.F ht⟩) hS.2.2 hdg hk
theorem gz_backX {wc wr : va_W} {tys1 : List (ClassId × FieldType)} {a : Array Value} {rest : List Value} {H : Heap} {locs : List Loc} {ls : Array Slot} (isC isR : List Nat) (hC : isC.map (fun i => ws[i]?) = wc.map some) (hR : isR.map (fun i => ws[i]?) = wr.map some) (hn : va_nd isR = true) (hdis : ∀ i ∈ isR, i ∉ isC)
    (hA : ∀ q : Nat, s.heap.size ≤ q → A q) (hP : va_P D vwCl ws H) (hD : va_D A ws) (hS : va_S A s.heap H locs) (hl : lv_has ls nL lv)
    (hr : va_Run p l e R s m args below meth c H locs cells slots mc ms (F0 m pc ls st) rest (gz_QX D tys1 ov f (va_A wc H.size) a) (va_A wc H.size))
    (kk : ∀ u, GZ p l e R s m args below meth c nL D A (cells + mc) (slots + ms) Q (wr ++ f u) lv (ov.toList ++ rest) (pc + 3)) : W p l e R s m args below meth c H locs cells slots Q (F0 m pc ls st) := by
  have hF := va_free (wc := wc) hD hS hA isC hC
  intro T hT X
  obtain ⟨v, st₀, t, T', L, h0, X', hL, e1, e2, ⟨hv, ⟨u, hP1, hK1, hD1⟩, hz, hk⟩, stp⟩ := hr T hT X
  cases hv
  rw [h0] at hz hk
  obtain ⟨hPn, hDn⟩ := va_join hP hD isC isR hC hR hn hdis (H1 := T'.heap) (fun q h1 h2 => by rw [e1]; exact hk q h1 h2) hF (by rw [e1]; exact hP1) hD1
  obtain ⟨t2, a1, b1⟩ := kk u T'.heap (locs ++ L) ls hPn hDn ⟨Nat.le_trans hS.1 (by rw [e1]; exact hz), fun q h1 h2 => by rw [e1, hk q (Nat.lt_of_lt_of_le h1 hS.1) (fun z => h2 (hF q z))]; exact hS.2.1 q h1 h2, fun q hq => by
      rcases List.mem_append.mp hq with h | h
      · exact hS.2.2 q h
      · exact hF _ (hL q h)⟩ hl T' rfl X'
  exact ⟨t2, stp t2 a1, b1⟩
theorem gz_callIX (C : gz_C p s m args c cc nL own D tys A) {cc2 : ByteArray} {nL2 index n : Nat} {b : Nat} {As rest : List Value} {wc wr : va_W} {tys1 : List (ClassId × FieldType)} (hM : gz_MX l y cc2 nL2 none rm D tys1 (.ref b :: As) wc none f mc ms) (hcode : Cond.code y cc2 nL2 none ∈ WB) (hini : Cond.initialized y.cls ∈ WB) (hl1 : Cond.methodLink own index y ∈ WB) (hinm : Cond.instanceMethod y ∈ WB) (hy1 : y.name = "<init>")
    (hd : y.cls ≠ "java/lang/invoke/MethodHandle" ∧ y.cls ≠ "java/lang/invoke/VarHandle" ∧ (parseMethodDescriptor y.desc).map (fun d => d.parameters.length) = some n) (hR0 : (rm.cells = mc ∧ rm.slots = ms) ∧ rm.frames + 1 ≤ R.frames ∧ 8 + (nL2 + 11) + rm.locals ≤ R.locals)
    (isC isR isT : List Nat) (hC : isC.map (fun i => ws[i]?) = wc.map some) (hR : isR.map (fun i => ws[i]?) = wr.map some) (hT : isT.filterMap (fun i => tys[i]?) = tys1) (hn : va_nd isC = true ∧ va_nd isR = true ∧ ∀ i ∈ isR, i ∉ isC)
    (hlen : As.length = n) (hst : st = As.reverse ++ .ref b :: rest) (hrs : (rest.map fun v => v.category).sum ≤ 8) (hdg : decode cc pc = .ok (.invokespecial index, 3)) (hf : cells + mc ≤ R.cells ∧ slots + ms ≤ R.slots)
    (kk : ∀ u, GZ p l e R s m args below meth c nL D A (cells + mc) (slots + ms) Q (wr ++ f u) lv rest (pc + 3)) : GZ p l e R s m args below meth c nL D A cells slots Q ws lv st pc := by
  intro H locs ls hP hD hS hl
  have hPc : va_P D vwCl wc H := hP.sub isC (by have h3 := congrArg (List.filterMap id) hC; simpa [List.filterMap_map, Function.comp] using h3)
  have hDc := hD.sub isC hn.1 hC
  have hKc := C.2.2.2.2.2.1.sub isT hT
  exact gz_backX isC isR hC hR hn.2.1 hn.2.2 C.2.2.2.2.2.2.1 hP hD hS hl (va_runI (As := As) (rest := rest) ⟨C.1, C.2.1, C.2.2.1, C.2.2.2.1, C.2.2.2.2.1⟩ (hM H.size) (cwI n C.2.2.2.2.1 (WB_code hcode) rfl hR0.1.1 hR0.1.2 (C.2.2.2.2.1 _ hini) (C.2.2.2.2.1 _ hl1) (C.2.2.2.2.1 _ hinm) hy1 hd hR0.2) ⟨gz_blind, fun U hU hW => ⟨rfl, by rw [hU], by rw [hU]; exact hPc, va_K.moved hW.alike hKc, hDc.weaken (fun _ _ _ _ => trivial), NWs_warm hW C.2.2.2.2.2.2.2⟩⟩ rfl hlen hl.1 hst (lv_room hrs) hdg hf) kk
theorem gz_callIN (C : gz_C p s m args c cc nL own D tys A) {cc2 : ByteArray} {nL2 index n : Nat} {b : Nat} {As rest : List Value} {wc wr : va_W} {tys1 : List (ClassId × FieldType)} {host : String} (hM : gz_MX l y cc2 nL2 none rm D tys1 (.ref b :: As) wc none f mc ms) (hcode : Cond.code y cc2 nL2 none ∈ WB) (hini : Cond.initialized y.cls ∈ WB) (hl1 : va_Nw (Cond.methodLinkNest own index y host) s) (hinm : Cond.instanceMethod y ∈ WB) (hy1 : y.name = "<init>")
    (hd : y.cls ≠ "java/lang/invoke/MethodHandle" ∧ y.cls ≠ "java/lang/invoke/VarHandle" ∧ (parseMethodDescriptor y.desc).map (fun d => d.parameters.length) = some n) (hR0 : (rm.cells = mc ∧ rm.slots = ms) ∧ rm.frames + 1 ≤ R.frames ∧ 8 + (nL2 + 11) + rm.locals ≤ R.locals)
    (isC isR isT : List Nat) (hC : isC.map (fun i => ws[i]?) = wc.map some) (hR : isR.map (fun i => ws[i]?) = wr.map some) (hT : isT.filterMap (fun i => tys[i]?) = tys1) (hn : va_nd isC = true ∧ va_nd isR = true ∧ ∀ i ∈ isR, i ∉ isC)
    (hlen : As.length = n) (hst : st = As.reverse ++ .ref b :: rest) (hrs : (rest.map fun v => v.category).sum ≤ 8) (hdg : decode cc pc = .ok (.invokespecial index, 3)) (hf : cells + mc ≤ R.cells ∧ slots + ms ≤ R.slots)
    (kk : ∀ u, GZ p l e R s m args below meth c nL D A (cells + mc) (slots + ms) Q (wr ++ f u) lv rest (pc + 3)) : GZ p l e R s m args below meth c nL D A cells slots Q ws lv st pc := by
  intro H locs ls hP hD hS hl
  have hPc : va_P D vwCl wc H := hP.sub isC (by have h3 := congrArg (List.filterMap id) hC; simpa [List.filterMap_map, Function.comp] using h3)
  have hDc := hD.sub isC hn.1 hC
  have hKc := C.2.2.2.2.2.1.sub isT hT
  exact gz_backX isC isR hC hR hn.2.1 hn.2.2 C.2.2.2.2.2.2.1 hP hD hS hl (va_runIN (As := As) (rest := rest) ⟨C.1, C.2.1, C.2.2.1, C.2.2.2.1, C.2.2.2.2.1⟩ (hM H.size) ⟨va_cnB n C.2.2.2.2.1 (WB_code hcode) rfl hR0.1.1 hR0.1.2 hl1 (C.2.2.2.2.1 _ hini) hd hR0.2, hy1, C.2.2.2.2.1 _ hinm⟩ ⟨gz_blind, fun U hU hW => ⟨rfl, by rw [hU], by rw [hU]; exact hPc, va_K.moved hW.alike hKc, hDc.weaken (fun _ _ _ _ => trivial), NWs_warm hW C.2.2.2.2.2.2.2⟩⟩ rfl hlen hl.1 hst (lv_room hrs) hdg hf) kk
theorem gz_callVX (C : gz_C p s m args c cc nL own D tys A) {cc2 : ByteArray} {nL2 index n : Nat} {CN : String} {b : Nat} {As rest : List Value} {wc wr : va_W} {tys1 : List (ClassId × FieldType)} {ci : Nat} {T : u_T} {N : Nat} {fs : List Value} (hM : gz_MX l y cc2 nL2 ret rm D tys1 (.ref b :: As) wc ov f mc ms) (hG : GoodIn WB (wsV own index CN y (.code y cc2 nL2 ret :: WB)))
    (hd : y.cls = CN ∧ y.cls ≠ "java/lang/invoke/MethodHandle" ∧ y.cls ≠ "java/lang/invoke/VarHandle" ∧ (parseMethodDescriptor y.desc).map (fun d => d.parameters.length) = some n) (hR0 : (rm.cells = mc ∧ rm.slots = ms) ∧ rm.frames + 1 ≤ R.frames ∧ 8 + (nL2 + 11) + rm.locals ≤ R.locals)
    (isC isR isT : List Nat) (hC : isC.map (fun i => ws[i]?) = wc.map some) (hR : isR.map (fun i => ws[i]?) = wr.map some) (hT : isT.filterMap (fun i => tys[i]?) = tys1) (hn : va_nd isC = true ∧ va_nd isR = true ∧ ∀ i ∈ isR, i ∉ isC) {g : S → va_W} (h2 : ∀ u, wr ++ f u = g u)
    (q0 : Nat) (hb : ws[q0]? = some (b, .inr (ci, fs))) (hci : vwCl[ci]? = some (CN, T, N)) (hlen : As.length = n) (hst : st = As.reverse ++ .ref b :: rest) (hrs : (rest.map fun v => v.category).sum ≤ 8) (hdg : decode cc pc = .ok (.invokevirtual index, 3)) (hf : cells + mc ≤ R.cells ∧ slots + ms ≤ R.slots) {st2 : List Value} (h3 : ov.toList ++ rest = st2) {cells2 slots2 : Nat} (hc2 : cells + mc = cells2) (hs2 : slots + ms = slots2)
    (kk : ∀ u, GZ p l e R s m args below meth c nL D A cells2 slots2 Q (g u) lv st2 (pc + 3)) : GZ p l e R s m args below meth c nL D A cells slots Q ws lv st pc := by
  subst h3; subst hc2; subst hs2
  intro H locs ls hP hD hS hl
  have hPc : va_P D vwCl wc H := hP.sub isC (by have h3 := congrArg (List.filterMap id) hC; simpa [List.filterMap_map, Function.comp] using h3)
  have hDc := hD.sub isC hn.1 hC
  have hKc := C.2.2.2.2.2.1.sub isT hT
  exact gz_backX isC isR hC hR hn.2.1 hn.2.2 C.2.2.2.2.2.2.1 hP hD hS hl (va_runV (As := As) (rest := rest) ⟨C.1, C.2.1, C.2.2.1, C.2.2.2.1, C.2.2.2.2.1⟩ (hM H.size) (cwV n C.2.2.2.2.1 hG rfl hR0.1.1 hR0.1.2 hd hR0.2) ⟨gz_blind, va_recv C.2.2.2.2.2.1 hP hci hb, fun U hU hW => ⟨rfl, by rw [hU], by rw [hU]; exact hPc, va_K.moved hW.alike hKc, hDc.weaken (fun _ _ _ _ => trivial), NWs_warm hW C.2.2.2.2.2.2.2⟩⟩ rfl hlen hl.1 hst (lv_room hrs) hdg hf) (fun u => by rw [h2 u]; exact kk u)
end GZ2

