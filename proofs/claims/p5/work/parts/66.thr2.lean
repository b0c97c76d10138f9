section ZCatch
theorem z_find {E : CtlPost} {e : Env} {d : Bool} {acts : List Action} {s : State} {f : JFrame} {a : Addr} {Q : Handler → Pre} {x : ExceptionTableEntry} {t : List ExceptionTableEntry} {c : ClassId} {cell : Cell} {vm' : Vm} (hx : covers x f.pc = true) (h0 : x.catchType ≠ 0)
    (hg : (Jvm.resolveClass f.method.cls x.catchType).Gives e.toSetting s.vm (.ok c) vm') (hsz : vm'.classes.size ≤ s.vm.classes.size) (hcell : s.heap[a]? = some cell) (hobj : ∀ k, cell.vm ≠ .statics k)
    (hk : ∃ k, vm'.classes[cell.cls]? = some k) (hc : ∃ k, vm'.classes[c]? = some k) (hfit : vm'.assignable cell.cls c = true) :
    wp (findHandler.go f a (x :: t)) Q E e d acts s ↔ Q (.found x.handlerPc) d acts (s.setVm vm') := by
  simp only [covers] at hx
  obtain ⟨ha, ht⟩ := hg.op (op := VmOp.resolveClass f.method.cls x.catchType) rfl
  simp [findHandler.go, hx, h0, ha, ht, hsz, hcell, hobj, hk, hc, hfit, VmOp.dirties, VmOp.acts]
theorem z_step {e : Env} {s : State} {a : Addr} {f : JFrame} {r : List Frame} {pc : Nat} {vm' : Vm} (hfind : ∀ (Q : Handler → Pre) (E : CtlPost) (d : Bool) (acts : List Action), wp (findHandler f a) Q E e d acts s ↔ Q (.found pc) d acts (s.setVm vm')) :
    (stepThrowing e s a (.java f :: r)).1 = ((s.setVm vm').setFrames (.java { f with pc := pc, stack := [.ref a] } :: r)) := by
  simp only [stepThrowing, searchFrame, vmDo]
  generalize hr : Sem.go _ e false [] s = res
  obtain ⟨as, rfl, ha⟩ := Sem.eq_ok_of hr (a := Handler.found pc) (s' := s.setVm vm') (acts' := []) (by simp [hfind _ _ _ _])
  rfl
variable {p : Program} {l : Launch} {e : Env} {R : Room} {s : State} {m : MethodId} {args : Array Value} {below : List Frame} {meth : Method} {c : Code} {T : State} {locs : List Loc} {cells slots : Nat}
theorem z_catch (X : Stand p l e R s m args below meth c T locs cells slots) {own name : String} {x : ExceptionTableEntry} {rest : List ExceptionTableEntry} (hsplit : c.exceptionTable.toList = x :: rest) (hown : s.vm.findClass own = some m.cls) (hlink : (Cond.classLink own x.catchType name).before args s = true) (h0 : x.catchType ≠ 0)
    {a : Addr} {cell : Cell} {cT : ClassId} (hcell : T.heap[a]? = some cell) (hobj : cell.vm.isStatics = false) (hcT : s.vm.findClass name = some cT) (hasg : s.vm.assignable cell.cls cT = true)
    {g : JFrame} (hg : g.method = m) (hx : covers x g.pc = true) :
    ∃ vm', Stand p l e R s m args below meth c (T.setVm vm') locs cells slots ∧
      ∀ target, Steps p.tables e below ((T.setVm vm').setTop { g with pc := x.handlerPc, stack := [.ref a] }) target → Steps p.tables e below ((T.setTop g).pushFrame (.throwing a)) target := by
  have hpl : e.platform.magicAccessors = ({} : Platform).magicAccessors := by rw [X.admits.platform]
  obtain ⟨c', hc', hcl⟩ := Cond.classLink_spec hown hlink e.platform hpl
  cases hcT.symm.trans hc'
  obtain ⟨dk, _, _, kt, hd, _, _, _, _, hkt, _, hopen⟩ := hcl.here
  obtain ⟨ks, hks⟩ := Vm.classAt_of_assignable hasg ⟨kt, hkt⟩
  have hcl₀ := X.warmed.classLinks hcl
  have hW' : s.WarmedH (T.vm.noted m.cls x.catchType (.cls cT)) := X.warmed.noted hd hopen (State.rightAt_cls hcl)
  obtain ⟨ks', hks', -⟩ := hW'.alike.2.2 _ _ hks
  obtain ⟨kt', hkt', -⟩ := hW'.alike.2.2 _ _ hkt
  refine ⟨_, X.noted hW', fun target hrest => ?_⟩
  subst hg
  have h := X.here
  have hf : ∀ (Q : Handler → Pre) (E : CtlPost) (d : Bool) (acts : List Action), wp (findHandler g a) Q E e d acts ((T.setTop g).pushFrame (.throwing a)) ↔ Q (.found x.handlerPc) d acts (((T.setTop g).pushFrame (.throwing a)).setVm (T.vm.noted g.method.cls x.catchType (.cls cT))) := by
    intro Q E d acts
    rw [Jvm.W.findHandler_eq (meth := meth) (code := c) (by rw [Stand.throwing_vm]; exact X.method') X.code, hsplit]
    refine z_find hx h0 (c := cT) (cell := cell) ?_ ?_ ?_ (VmData.noStatics_of hobj) ⟨ks', hks'⟩ ⟨kt', hkt'⟩ ?_
    · rw [Stand.throwing_vm]; exact resolveClass_links e.toSetting hcl₀
    · rw [Stand.throwing_vm]; no_record
    · rw [Stand.throwing_heap]; exact hcell
    · rw [hW'.alike.assignable]; exact hasg
  obtain ⟨hgo, hw⟩ := h.throwing a
  refine Steps.head hgo hw ?_
  rw [stepThread_throwing (frames_entered h.top _), z_step hf]
  obtain ⟨g₀, hg0⟩ := Option.isSome_iff_exists.mp h.top
  obtain ⟨r, hr⟩ := State.topJava?_eq_some.mp hg0
  have hr' : (T.setVm (T.vm.noted g.method.cls x.catchType (.cls cT))).frames = .java g₀ :: r := hr
  rw [State.setTop_of_frames _ hr'] at hrest
  have e1 : (((T.setTop g).pushFrame (.throwing a)).setVm (T.vm.noted g.method.cls x.catchType (.cls cT))).setFrames (.java { g with pc := x.handlerPc, stack := [.ref a] } :: T.frames.tail) = (T.setVm (T.vm.noted g.method.cls x.catchType (.cls cT))).setFrames (.java { g with pc := x.handlerPc, stack := [.ref a] } :: r) := by
    rw [State.pushFrame, State.setTop_of_frames _ hr, State.setFrames_setFrames, hr]
    show ((T.setFrames _).setFrames _).setVm _ = _
    rw [State.setFrames_setFrames]
    rfl
  rw [e1]
  exact hrest
end ZCatch
section ZAt
variable {p : Program} {l : Launch} {e : Env} {R : Room} {s : State} {m : MethodId} {args : Array Value} {below : List Frame} {meth : Method} {c : Code} {H : Heap} {locs : List Loc} {cells slots : Nat}
/-- how at() ends where it throws -/
def ZQ (s : State) (below : List Frame) : State → Prop := fun t => ∃ a, t.status = .running ∧ Ended t below (.threw a) ∧ s.WarmedH t.vm ∧ s.sameButNew ({ t with vm := s.vm } : State) [] 1 6 ∧ ∃ ce : Cell, t.heap[a]? = some ce ∧ s.vm.findClass zX = some ce.cls ∧ ce.vm.isStatics = false
theorem z_at_end {D : va_G} {tys : List (ClassId × FieldType)} {A : Nat → Prop} (hfl : e.platform.stackTraces = false) (C : gz_C p s m args c cX2_at 2 RX2 D tys A) (hex : c.exceptionTable.isEmpty = true) (hlk : meth.locks = false) (hZ : ZT s) (hR : 6 < R.frames ∧ 110 ≤ R.locals ∧ 1 ≤ R.cells ∧ 6 ≤ R.slots) {ls : Array Slot} (hl : ls.size = 2) :
    W p l e R s m args below meth c s.heap [] 0 0 (ZQ s below) (F0 m 12 ls []) := by
  obtain ⟨hZ1, qS, hZ2⟩ := hZ
  have hown : s.vm.findClass "RoundSearch" = some m.cls := C.2.2.2.1
  obtain ⟨c1, k1, hc1, hk1, hord, -, -, hn6⟩ := Cond.instantiable_spec (args := args) (C.2.2.2.2.1 _ wk_303)
  refine W.newcK (h := s.heap.size) C.1 C.2.1 hown (C.2.2.2.2.1 _ wk_302) (C.2.2.2.2.1 _ wk_303) (C.2.2.2.2.1 _ wk_10) rfl dX2_at_12 (by omega) (by omega) hc1 rfl (fun H1 kC hkC e1 z1 o1 => ?_)
  refine lv_dup C.1 C.2.1 dX2_at_15 rfl ?_
  refine va_ldcS C.1 C.2.1 hown hZ2 dX2_at_16 ?_
  intro T hT X
  obtain ⟨U, st, h1, h2, h3, h4, ce, h5, h6⟩ := Stand.ctorThrowS (own := "RoundSearch") (cls := zX) (names := zNames) (ic := 98) (a := s.heap.size) (msg := .ref qS) (g := F0 m 18 ls [.ref qS, .ref s.heap.size, .ref s.heap.size]) (rest := []) X C.1 hfl hown (by decide) (by decide) (fun a ha => z_move (A := #[]) (State.WarmedH.refl s) (fun _ _ h => h) (List.all_eq_true.mp z_kinds a ha) (hZ1 a ha)) (fun x hx => absurd hx List.not_mem_nil) hc1 hkC (by rw [hT]; exact e1) (Nat.le_refl _) rfl rfl (hl.trans C.2.2.1.symm) rfl rfl rfl (by rw [C.2.1]; exact dX2_at_18) (by rw [C.2.1]; exact dX2_at_21) (fun x hx => by
    have : c.exceptionTable = #[] := by simpa [Array.isEmpty] using hex
    rw [this] at hx; simp at hx) hR.1 (by show 2 * 0 + (1 + 0) + (13 * (3 + 1) + 42) ≤ R.locals; omega) hlk
  exact ⟨U, st, s.heap.size, h1, h2, h3, h4, ce, h5, h6.cls, by rw [h6.vm]; rfl⟩
theorem z_at {D : va_G} {tys : List (ClassId × FieldType)} {A : Nat → Prop} {xo nt es ro : Nat} {ln : Int32} {fz : Nat} {sx : Bool} {mo : Int32} {ws : va_W} {x : Int32} (hfl : e.platform.stackTraces = false) (C : gz_C p s m args c cX2_at 2 RX2 D tys A) (hex : c.exceptionTable.isEmpty = true) (hlk : meth.locks = false) (hZ : ZT s) (hR : 6 < R.frames ∧ 110 ≤ R.locals ∧ 1 ≤ R.cells ∧ 6 ≤ R.slots)
    (hP : va_P D vwCl ws s.heap) (hw : ws[0]? = some (xo, .inr (3, [.ref nt, .ref es, .ref ro, .int ln, .int (nI fz), .int (bI sx), .int mo]))) {ls : Array Slot} (hl : lv_has ls 2 [(0, .ref xo), (1, .int x)]) (hx : x < 0 ∨ ¬ x < ln) :
    W p l e R s m args below meth c s.heap [] 0 0 (ZQ s below) (F0 m 0 ls []) := by
  refine lv_iload_n C.1 C.2.1 dX2_at_0 rfl (lv_at hl 1 rfl) ?_
  refine lv_if_lt C.1 C.2.1 (tgt := 12) dX2_at_1 (by decide) (fun _ => z_at_end hfl C hex hlk hZ hR hl.1) (fun h0 => ?_)
  refine lv_iload_n C.1 C.2.1 dX2_at_4 rfl (lv_at hl 1 rfl) ?_
  refine lv_aload_n C.1 C.2.1 dX2_at_5 rfl (lv_at hl 0 rfl) ?_
  refine va_get (ci := 3) C.1 C.2.1 C.2.2.2.2.1 iwX2 C.2.2.2.1 C.2.2.2.2.2.1 hP 0 hw rfl 3 (by decide) (C.2.2.2.2.1 _ wk_82) (fun _ h9 => h9) rfl dX2_at_6 ?_
  exact lv_icmp_lt C.1 C.2.1 (tgt := 22) dX2_at_9 (by decide) (fun h1 => absurd h1 (hx.resolve_left h0)) (fun _ => z_at_end hfl C hex hlk hZ hR hl.1)
end ZAt

