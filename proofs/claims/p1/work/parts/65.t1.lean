/-- the chain of the exception that at() throws -/
abbrev zX : String := "java/lang/ArrayIndexOutOfBoundsException"
abbrev zNames : List String := ["java/lang/IndexOutOfBoundsException", "java/lang/RuntimeException", "java/lang/Exception"]
def zOwn : List Cond := Bundle.ownAtoms "RoundSearch" 98 zX zNames
def zTab (c : Cond) : Bool := c.onTables && (c.keeps || (match c with | .declares _ => true | .castable .. => true | _ => false))
theorem z_warm {s U : State} (hW : s.WarmedH U.vm) {A A' : Array Value} {c : Cond} (hz : zTab c = true) (h : c.before A s = true) : c.before A' U = true := by
  simp only [zTab, Bool.and_eq_true, Bool.or_eq_true] at hz
  have h1 : c.before A (s.setVm U.vm) = true := by
    refine Cond.before_warmed hW c ?_ h
    rcases hz.2 with hk | hk
    · cases c <;> first | exact hk | trivial | (simp [Cond.keeps, Cond.steady] at hk; done) | exact absurd hz.1 (by simp [Cond.onTables])
    · cases c <;> first | trivial | (simp at hk; done)
  have e := Cond.onTables_vm (A := A) (A' := A') (U := s) (U' := U) U.vm c hz.1
  rw [e] at h1
  exact h1
/-- two words that look at the heap: at the cell of the class's statics -/
theorem z_lays {u U : State} (hv : u.vm = U.vm) (hH : ∀ (q : Nat) (x : Cell), u.heap[q]? = some x → U.heap[q]? = some x) {A A' : Array Value} {C n d : String} (h : (Cond.laysStatic C n d).before A u = true) : (Cond.laysStatic C n d).before A' U = true := by
  have ef : ∀ a b d, U.fieldFound? a b d = u.fieldFound? a b d := fun a b d => by unfold State.fieldFound?; rw [hv]
  simp only [Cond.before, Cond.holds, Cond.value] at h ⊢
  rw [ef, ← hv]
  cases h1 : u.vm.findClass C with
  | none => simp [h1] at h
  | some c =>
    cases h2 : u.fieldFound? C n d with
    | none => simp [h1, h2] at h
    | some q =>
      obtain ⟨c', k, i, f⟩ := q
      simp only [h1, h2] at h ⊢
      cases h3 : k.statics with
      | none => simp [h3] at h
      | some a =>
        simp only [h3, Option.bind_some] at h ⊢
        cases h4 : u.heap[a]? with
        | none => simp [h4] at h
        | some x => rw [hH a x h4]; rw [h4] at h; exact h
theorem z_ref {u U : State} (hv : u.vm = U.vm) (hH : ∀ (q : Nat) (x : Cell), u.heap[q]? = some x → U.heap[q]? = some x) {A A' : Array Value} {C n d : String} (h : (Cond.isRef (.static C n d)).before A u = true) : (Cond.isRef (.static C n d)).before A' U = true := by
  have ef : ∀ a b d, U.fieldFound? a b d = u.fieldFound? a b d := fun a b d => by unfold State.fieldFound?; rw [hv]
  have key : ∀ v, (Term.static C n d).eval A u none [] u = some v → (Term.static C n d).eval A' U none [] U = some v := by
    intro v h
    simp only [Term.eval, State.fieldNamed?] at h ⊢
    rw [ef]
    cases h2 : u.fieldFound? C n d with
    | none => simp [h2] at h
    | some q =>
      obtain ⟨c', k, i, f⟩ := q
      rw [h2] at h
      cases h5 : f.isStatic with
      | false => simp [h5] at h
      | true =>
        cases h3 : k.statics with
        | none => simp [h5, h3] at h
        | some a =>
          cases h4 : u.heap[a]? with
          | none => simp [h5, h3, h4] at h
          | some x => simp [h5, h3, h4] at h; simp [h5, h3, hH a x h4]; exact h
  simp only [Cond.before, Cond.holds, Cond.value] at h ⊢
  cases h1 : (Term.static C n d).eval A u none [] u with
  | none => simp [h1] at h
  | some v => rw [key v h1]; rw [h1] at h; exact h
/-- what a throw of at() stands on: the words of the exception's classes, its text -/
def ZT (U : State) : Prop := (∀ c ∈ zOwn, c.before #[] U = true) ∧ ∃ q, vk_R "RoundSearch" 96 "no such place in the round" q U
def zKind (c : Cond) : Bool := zTab c || (match c with | .laysStatic .. => true | .isRef (.static ..) => true | _ => false)
theorem z_kinds : zOwn.all zKind = true := by decide +kernel
theorem z_move {s U : State} (hW : s.WarmedH U.vm) (hH : ∀ (q : Nat) (x : Cell), s.heap[q]? = some x → U.heap[q]? = some x) {A A' : Array Value} {c : Cond} (hz : zKind c = true) (h : c.before A s = true) : c.before A' U = true := by
  by_cases ht : zTab c = true
  · exact z_warm hW ht h
  · have ht' : zTab c = false := by simpa using ht
    simp only [zKind, ht', Bool.false_or] at hz
    cases c with
    | laysStatic C n d => exact z_lays (u := s.setVm U.vm) (U := U) rfl hH (Cond.before_warmed (args := A) hW _ rfl h)
    | isRef t =>
      cases t with
      | static C n d => exact z_ref (u := s.setVm U.vm) (U := U) rfl hH (Cond.before_warmed (args := A) hW _ rfl h)
      | _ => simp at hz
    | _ => simp at hz
theorem ZT.to {s U : State} (hW : s.WarmedH U.vm) (hH : ∀ (q : Nat) (x : Cell), s.heap[q]? = some x → U.heap[q]? = some x) (h : ZT s) : ZT U :=
  ⟨fun c hc => z_move hW hH (List.all_eq_true.mp z_kinds c hc) (h.1 c hc), h.2.elim fun q hq => ⟨q, vk_R.warm hW hq⟩⟩
theorem ZT.of {A : Array Value} {s : State} (h1 : ∀ w ∈ lw_tbl, w.before A s = true) (h2 : (Jvm.Cond.and given_1 narrow_1).before A s = true) : ZT s := by
  have hn := flat_of_before _ h2
  refine ⟨fun c hc => ?_, ?_⟩
  · have hk : c ∈ lw_tbl ∨ c = Cond.isRef (.static "java/lang/Throwable" "UNASSIGNED_STACK" "[Ljava/lang/StackTraceElement;") ∨ c = Cond.isRef (.static "java/lang/Throwable" "SUPPRESSED_SENTINEL" "Ljava/util/List;") := by
      have h0 : zOwn.all (fun c => decide (c ∈ lw_tbl) || decide (c = Cond.isRef (.static "java/lang/Throwable" "UNASSIGNED_STACK" "[Ljava/lang/StackTraceElement;")) || decide (c = Cond.isRef (.static "java/lang/Throwable" "SUPPRESSED_SENTINEL" "Ljava/util/List;"))) = true := by decide +kernel
      have h3 := List.all_eq_true.mp h0 c hc
      simp only [Bool.or_eq_true, decide_eq_true_eq] at h3
      rcases h3 with (h | h) | h
      · exact Or.inl h
      · exact Or.inr (Or.inl h)
      · exact Or.inr (Or.inr h)
    have hb : c.before A s = true := by
      rcases hk with h | h | h
      · exact h1 c h
      · rw [h]; exact hn _ (by decide +kernel)
      · rw [h]; exact hn _ (by decide +kernel)
    exact z_move (State.WarmedH.refl s) (fun _ _ h => h) (List.all_eq_true.mp z_kinds c hc) hb
  · have he : (Cond.exactly (.string "RoundSearch" 96) "java/lang/String").before A s = true := hn _ (by decide +kernel)
    obtain ⟨a, c, cA, kA, q1, -⟩ := Cond.exactly_spec (args := A) (first := s) (o := none) (s := s) (idx := []) (t := .string "RoundSearch" 96) (cls := "java/lang/String") he
    exact ⟨a, vk_R.of (h1 _ (by decide +kernel)) q1⟩


section ZCatch
theorem z_find {E : CtlPost} {e : Env} {d : Bool} {acts : List Action} {s : State} {f : JFrame} {a : Addr} {Q : Handler → Pre} {x : ExceptionTableEntry} {t : List ExceptionTableEntry} {c : ClassId} {cell : Cell} {vm' : Vm} (hx : covers x f.pc = true) (h0 : x.catchType ≠ 0)
    (hg : (Jvm.resolveClass f.method.cls x.catchType).Gives e.toSetting s.vm (.ok c) vm') (hsz : vm'.classes.size ≤ s.vm.classes.size) (hcell : s.heap[a]? = some cell) (hobj : ∀ k, cell.vm ≠ .statics k)
    (hk : ∃ k, vm'.classes[cell.cls]? = some k) (hc : ∃ k, vm'.classes[c]? = some k) (hfit : vm'.assignable cell.cls c = true) :
    wp (findHandler.go f a (x :: t)) Q E e d acts s ↔ Q (.found x.handlerPc) d acts (s.setVm vm') := by
  simp only [covers] at hx
  obtain ⟨ha, ht⟩ := hg.op (op := VmOp.resolveClass f.method.cls x.catchType) rfl
  simp [findHandler.go, hx, h0, ha, ht, hsz, hcell, hobj, hk, hc, hfit, VmOp.dirties, VmOp.acts]
theorem z_step {e : Env} {s : State} {a : Addr} {f : JFrame} {r : List Frame} {pc : Nat} {vm' : Vm} (hfind : ∀ (Q : Handler → Pre) (E : CtlPost) (d : Bool) (acts : List Action), wp (findHandler f a) Q E e d acts s ↔ Q (.found pc) d acts (s.setVm vm')) :
    (stepThrowing e s a (.java f :: r)).1 = ((s.setVm vm').setFrames (.java { f with pc := pc, stack := [.ref a] } :: r)) := by
  simp only [stepThrowing, searchFrame, vmDo]
  generalize hr : Sem.go _ e false [] s = res
  obtain ⟨as, rfl, ha⟩ := Sem.eq_ok_of hr (a := Handler.found pc) (s' := s.setVm vm') (acts' := []) (by simp [hfind _ _ _ _])
  rfl
variable {p : Program} {l : Launch} {e : Env} {R : Room} {s : State} {m : MethodId} {args : Array Value} {below : List Frame} {meth : Method} {c : Code} {T : State} {locs : List Loc} {cells slots : Nat}
theorem z_catch (X : Stand p l e R s m args below meth c T locs cells slots) {own name : String} {x : ExceptionTableEntry} {rest : List ExceptionTableEntry} (hsplit : c.exceptionTable.toList = x :: rest) (hown : s.vm.findClass own = some m.cls) (hlink : (Cond.classLink own x.catchType name).before args s = true) (h0 : x.catchType ≠ 0)
    {a : Addr} {cell : Cell} {cT : ClassId} (hcell : T.heap[a]? = some cell) (hobj : cell.vm.isStatics = false) (hcT : s.vm.findClass name = some cT) (hasg : s.vm.assignable cell.cls cT = true)
    {g : JFrame} (hg : g.method = m) (hx : covers x g.pc = true) :
    ∃ vm', Stand p l e R s m args below meth c (T.setVm vm') locs cells slots ∧
      ∀ target, Steps p.tables e below ((T.setVm vm').setTop { g with pc := x.handlerPc, stack := [.ref a] }) target → Steps p.tables e below ((T.setTop g).pushFrame (.throwing a)) target := by
  have hpl : e.platform.magicAccessors = ({} : Platform).magicAccessors := by rw [X.admits.platform]
  obtain ⟨c', hc', hcl⟩ := Cond.classLink_spec hown hlink e.platform hpl
  cases hcT.symm.trans hc'
  obtain ⟨dk, _, _, kt, hd, _, _, _, _, hkt, _, hopen⟩ := hcl.here
  obtain ⟨ks, hks⟩ := Vm.classAt_of_assignable hasg ⟨kt, hkt⟩
  have hcl₀ := X.warmed.classLinks hcl
  have hW' : s.WarmedH (T.vm.noted m.cls x.catchType (.cls cT)) := X.warmed.noted hd hopen (State.rightAt_cls hcl)
  obtain ⟨ks', hks', -⟩ := hW'.alike.2.2 _ _ hks
  obtain ⟨kt', hkt', -⟩ := hW'.alike.2.2 _ _ hkt
  refine ⟨_, X.noted hW', fun target hrest => ?_⟩
  subst hg
  have h := X.here
  have hf : ∀ (Q : Handler → Pre) (E : CtlPost) (d : Bool) (acts : List Action), wp (findHandler g a) Q E e d acts ((T.setTop g).pushFrame (.throwing a)) ↔ Q (.found x.handlerPc) d acts (((T.setTop g).pushFrame (.throwing a)).setVm (T.vm.noted g.method.cls x.catchType (.cls cT))) := by
    intro Q E d acts
    rw [Jvm.W.findHandler_eq (meth := meth) (code := c) (by rw [Stand.throwing_vm]; exact X.method') X.code, hsplit]
    refine z_find hx h0 (c := cT) (cell := cell) ?_ ?_ ?_ (VmData.noStatics_of hobj) ⟨ks', hks'⟩ ⟨kt', hkt'⟩ ?_
    · rw [Stand.throwing_vm]; exact resolveClass_links e.toSetting hcl₀
    · rw [Stand.throwing_vm]; no_record
    · rw [Stand.throwing_heap]; exact hcell
    · rw [hW'.alike.assignable]; exact hasg
  obtain ⟨hgo, hw⟩ := h.throwing a
  refine Steps.head hgo hw ?_
  rw [stepThread_throwing (frames_entered h.top _), z_step hf]
  obtain ⟨g₀, hg0⟩ := Option.isSome_iff_exists.mp h.top
  obtain ⟨r, hr⟩ := State.topJava?_eq_some.mp hg0
  have hr' : (T.setVm (T.vm.noted g.method.cls x.catchType (.cls cT))).frames = .java g₀ :: r := hr
  rw [State.setTop_of_frames _ hr'] at hrest
  have e1 : (((T.setTop g).pushFrame (.throwing a)).setVm (T.vm.noted g.method.cls x.catchType (.cls cT))).setFrames (.java { g with pc := x.handlerPc, stack := [.ref a] } :: T.frames.tail) = (T.setVm (T.vm.noted g.method.cls x.catchType (.cls cT))).setFrames (.java { g with pc := x.handlerPc, stack := [.ref a] } :: r) := by
    rw [State.pushFrame, State.setTop_of_frames _ hr, State.setFrames_setFrames, hr]
    show ((T.setFrames _).setFrames _).setVm _ = _
    rw [State.setFrames_setFrames]
    rfl
  rw [e1]
  exact hrest
end ZCatch
section ZAt
variable {p : Program} {l : Launch} {e : Env} {R : Room} {s : State} {m : MethodId} {args : Array Value} {below : List Frame} {meth : Method} {c : Code} {H : Heap} {locs : List Loc} {cells slots : Nat}
/-- how at() ends where it throws -/
def ZQ (s : State) (below : List Frame) : State → Prop := fun t => ∃ a, t.status = .running ∧ Ended t below (.threw a) ∧ s.WarmedH t.vm ∧ s.sameButNew ({ t with vm := s.vm } : State) [] 1 6 ∧ ∃ ce : Cell, t.heap[a]? = some ce ∧ s.vm.findClass zX = some ce.cls ∧ ce.vm.isStatics = false
theorem z_at_end {D : va_G} {tys : List (ClassId × FieldType)} {A : Nat → Prop} (hfl : e.platform.stackTraces = false) (C : gz_C p s m args c cX2_at 2 RX2 D tys A) (hex : c.exceptionTable.isEmpty = true) (hlk : meth.locks = false) (hZ : ZT s) (hR : 6 < R.frames ∧ 110 ≤ R.locals ∧ 1 ≤ R.cells ∧ 6 ≤ R.slots) {ls : Array Slot} (hl : ls.size = 2) :
    W p l e R s m args below meth c s.heap [] 0 0 (ZQ s below) (F0 m 12 ls []) := by
  obtain ⟨hZ1, qS, hZ2⟩ := hZ
  have hown : s.vm.findClass "RoundSearch" = some m.cls := C.2.2.2.1
  obtain ⟨c1, k1, hc1, hk1, hord, -, -, hn6⟩ := Cond.instantiable_spec (args := args) (C.2.2.2.2.1 _ wk_303)
  refine W.newcK (h := s.heap.size) C.1 C.2.1 hown (C.2.2.2.2.1 _ wk_302) (C.2.2.2.2.1 _ wk_303) (C.2.2.2.2.1 _ wk_10) rfl dX2_at_12 (by omega) (by omega) hc1 rfl (fun H1 kC hkC e1 z1 o1 => ?_)
  refine lv_dup C.1 C.2.1 dX2_at_15 rfl ?_
  refine va_ldcS C.1 C.2.1 hown hZ2 dX2_at_16 ?_
  intro T hT X
  obtain ⟨U, st, h1, h2, h3, h4, ce, h5, h6⟩ := Stand.ctorThrowS (own := "RoundSearch") (cls := zX) (names := zNames) (ic := 98) (a := s.heap.size) (msg := .ref qS) (g := F0 m 18 ls [.ref qS, .ref s.heap.size, .ref s.heap.size]) (rest := []) X C.1 hfl hown (by decide) (by decide) (fun a ha => z_move (A := #[]) (State.WarmedH.refl s) (fun _ _ h => h) (List.all_eq_true.mp z_kinds a ha) (hZ1 a ha)) (fun x hx => absurd hx List.not_mem_nil) hc1 hkC (by rw [hT]; exact e1) (Nat.le_refl _) rfl rfl (hl.trans C.2.2.1.symm) rfl rfl rfl (by rw [C.2.1]; exact dX2_at_18) (by rw [C.2.1]; exact dX2_at_21) (fun x hx => by
    have : c.exceptionTable = #[] := by simpa [Array.isEmpty] using hex
    rw [this] at hx; simp at hx) hR.1 (by show 2 * 0 + (1 + 0) + (13 * (3 + 1) + 42) ≤ R.locals; omega) hlk
  exact ⟨U, st, s.heap.size, h1, h2, h3, h4, ce, h5, h6.cls, by rw [h6.vm]; rfl⟩
theorem z_at {D : va_G} {tys : List (ClassId × FieldType)} {A : Nat → Prop} {xo nt es ro : Nat} {ln : Int32} {fz : Nat} {sx : Bool} {mo : Int32} {ws : va_W} {x : Int32} (hfl : e.platform.stackTraces = false) (C : gz_C p s m args c cX2_at 2 RX2 D tys A) (hex : c.exceptionTable.isEmpty = true) (hlk : meth.locks = false) (hZ : ZT s) (hR : 6 < R.frames ∧ 110 ≤ R.locals ∧ 1 ≤ R.cells ∧ 6 ≤ R.slots)
    (hP : va_P D vwCl ws s.heap) (hw : ws[0]? = some (xo, .inr (3, [.ref nt, .ref es, .ref ro, .int ln, .int (nI fz), .int (bI sx), .int mo]))) {ls : Array Slot} (hl : lv_has ls 2 [(0, .ref xo), (1, .int x)]) (hx : x < 0 ∨ ¬ x < ln) :
    W p l e R s m args below meth c s.heap [] 0 0 (ZQ s below) (F0 m 0 ls []) := by
  refine lv_iload_n C.1 C.2.1 dX2_at_0 rfl (lv_at hl 1 rfl) ?_
  refine lv_if_lt C.1 C.2.1 (tgt := 12) dX2_at_1 (by decide) (fun _ => z_at_end hfl C hex hlk hZ hR hl.1) (fun h0 => ?_)
  refine lv_iload_n C.1 C.2.1 dX2_at_4 rfl (lv_at hl 1 rfl) ?_
  refine lv_aload_n C.1 C.2.1 dX2_at_5 rfl (lv_at hl 0 rfl) ?_
  refine va_get (ci := 3) C.1 C.2.1 C.2.2.2.2.1 iwX2 C.2.2.2.1 C.2.2.2.2.2.1 hP 0 hw rfl 3 (by decide) (C.2.2.2.2.1 _ wk_82) (fun _ h9 => h9) rfl dX2_at_6 ?_
  exact lv_icmp_lt C.1 C.2.1 (tgt := 22) dX2_at_9 (by decide) (fun h1 => absurd h1 (hx.resolve_left h0)) (fun _ => z_at_end hfl C hex hlk hZ hR hl.1)
end ZAt


section ZCall
variable {p : Program} {l : Launch} {e : Env} {R : Room} {s : State} {m : MethodId} {args : Array Value} {below : List Frame} {meth : Method} {c : Code} {Q : State → Prop}
theorem z_same {u t : State} {k n : Nat} (h : u.sameButNew t [] k n) (q : Nat) (x : Cell) (hq : u.heap[q]? = some x) : t.heap[q]? = some x := by
  obtain ⟨-, -, -, -, -, h6⟩ := h
  obtain ⟨x', h1, h2, -, h4⟩ := h6 q x hq
  have e1 : x'.slots = x.slots := Array.ext_getElem? (fun i => h4 i List.not_mem_nil)
  rw [h1, h2, e1]
theorem z_callAt {cc : ByteArray} {nL pc index : Nat} {own : String} {D : va_G} {tys : List (ClassId × FieldType)} {A : Nat → Prop} {ws : va_W} {xo nt es ro : Nat} {ln : Int32} {fz : Nat} {sx : Bool} {mo : Int32} {x : Int32} (hfl : e.platform.stackTraces = false) (C : gz_C p s m args c cc nL own D tys A) (hZ : ZT s) {xe : ExceptionTableEntry} (hsplit : c.exceptionTable.toList = [xe]) (h0 : xe.catchType ≠ 0) (hcv : covers xe pc = true) (hcl : Cond.classLink own xe.catchType zX ∈ WB) (hml : Cond.methodLink own index yX2_at ∈ WB)
    (hP : va_P D vwCl ws s.heap) (hw : ws[0]? = some (xo, .inr (3, [.ref nt, .ref es, .ref ro, .int ln, .int (nI fz), .int (bI sx), .int mo]))) {ls : Array Slot} (hls : ls.size = nL) (hx : x < 0 ∨ ¬ x < ln) {rest : List Value} (hrs : (rest.map fun v => v.category).sum ≤ 8) (hdg : decode cc pc = .ok (.invokevirtual index, 3)) (hR : 8 ≤ R.frames ∧ 131 ≤ R.locals ∧ 1 ≤ R.cells ∧ 6 ≤ R.slots)
    (kk : ∀ (H' : Heap) (a : Nat), s.heap.size ≤ H'.size → (∀ (q : Nat) (x : Cell), s.heap[q]? = some x → H'[q]? = some x) → W p l e R s m args below meth c H' [] 1 6 Q (F0 m xe.handlerPc ls [.ref a])) : W p l e R s m args below meth c s.heap [] 0 0 Q (F0 m pc ls (.int x :: .ref xo :: rest)) := by
  intro T hT X
  have hwd : ∀ w ∈ WB, w.before args s = true := C.2.2.2.2.1
  obtain ⟨mk, methM, hnamed, hmethM, hstM, habM⟩ := Cond.instanceMethod_spec (hwd _ wk_299)
  obtain ⟨methM', cM, hmethM', hcM, hbM, hlM, hrM, hlkM, hexM, hsigM⟩ := Cond.code_spec hnamed (hwd _ wk_301)
  cases hmethM.symm.trans hmethM'
  obtain ⟨c2, r2, m2, q1, q2, q3, q4, kP, hkP, hkPi⟩ := Cond.selects_spec (hwd _ wk_300)
  obtain ⟨cellB, hcB, hoB, hclB⟩ := va_recv (q0 := 0) (ci := 3) C.2.2.2.2.2.1 hP rfl hw
  cases hclB.symm.trans q1
  cases (State.methodFound?_of_named hnamed (by decide)).symm.trans q2
  cases hnamed.symm.trans q3
  have hselP : selectMethod e.platform s.vm cellB.cls mk = .method mk := by rw [Launch.admits_selectMethod X.admits]; exact q4
  obtain ⟨vm₁, X₁, hstep₁⟩ := X.invokevirtual (g := F0 m pc ls (.int x :: .ref xo :: rest)) (argsL := [.int x]) (rest := rest) C.1 C.2.2.2.1 (hwd _ hml) hnamed hmethM hstM hkP hkPi (by decide) (a := xo) (cell := cellB) (by rw [hT]; exact hcB)
    (fun z h => by rw [h] at hoB; cases hoB) hselP hmethM habM hkP hkPi rfl (by
      have h9 : parseMethodDescriptor yX2_at.desc = some ⟨[.int], some .int⟩ := by decide +kernel
      have h8 : some methM.sig = some ⟨[.int], some .int⟩ := hsigM.symm.trans h9
      rw [Option.some.inj h8]; rfl) rfl (by rw [C.2.1]; exact hdg)
  have hn1 := X₁.named hnamed
  have hm1 : (T.setVm vm₁).vm.method? mk = some methM := by rw [X₁.warmed.alike.method?]; exact hmethM
  have hpk : (T.setVm vm₁).plainMethod mk := State.plainMethod.of_named (x := yX2_at) (by decide) hn1 hm1
  obtain ⟨Y, hdo⟩ := X₁.into (g := F0 m pc ls rest) rfl (hls.trans C.2.2.1.symm) (by rw [C.2.1]; exact hdg) (mk := mk) (methk := methM) (ck := cM) #[.ref xo, .int x] (R' := { frames := 7, cells := 1, slots := 6, locals := 110 }) hm1 hcM hlkM hpk hR.1 (by rw [hlM]; show 2 * 0 + (rest.map fun v => v.category).sum + (2 + 11) + 110 ≤ R.locals; omega) (by show 0 + 1 ≤ _; omega) (by show 0 + 6 ≤ _; omega)
  have hWU : s.WarmedH ((T.setVm vm₁).calling (F0 m pc ls rest) mk #[.ref xo, .int x]).vm := X₁.warmed
  have hHU : ((T.setVm vm₁).calling (F0 m pc ls rest) mk #[.ref xo, .int x]).heap = s.heap := hT
  have C2 : gz_C p ((T.setVm vm₁).calling (F0 m pc ls rest) mk #[.ref xo, .int x]) mk #[.ref xo, .int x] cM cX2_at 2 RX2 D tys (fun _ => True) :=
    ⟨C.1, hbM, hlM, findClass_of_methodNamed hn1, fun w hw => pay_in hwd WB_good w hw _ _ hWU, va_K.moved hWU.alike C.2.2.2.2.2.1, fun _ _ => trivial, NWs_warm hWU C.2.2.2.2.2.2.2⟩
  have hbody := z_at (l := l) (R := { frames := 7, cells := 1, slots := 6, locals := 110 }) (below := .java (F0 m pc ls rest) :: below) (meth := methM) (x := x) hfl C2 hexM hlkM (ZT.to hWU (fun q y h => by rw [hHU]; exact h) hZ) ⟨by decide, by decide, by decide, by decide⟩ (by rw [hHU]; exact hP) hw (lv_entry [.ref xo, .int x] (n := 2) (Nat.le_of_ble_eq_true rfl)) hx
  rw [← lg_entry_eq] at hbody
  have hent : entryFrame mk #[.ref xo, .int x] cM.maxLocals = entryFrame mk ([Value.ref xo, .int x] : List Value).toArray 2 := by rw [hlM]
  rw [hent] at Y hdo
  obtain ⟨t, st, a, h1, h2, h3, h4, ce, h5, h6, h7⟩ := hbody (((T.setVm vm₁).setTop (F0 m pc ls rest)).pushFrame (.java (entryFrame mk #[.ref xo, .int x] 2))) (by simp [State.pushFrame, State.setFrames, State.setTop, State.modifyTopJava, State.calling]) Y
  obtain ⟨T', X', hW', hB', ht⟩ := X₁.outOfThrown (g := F0 m pc ls rest) rfl h2 h3 h4
  have hth : t.heap = T'.heap := by rw [ht, Stand.throwing_heap]
  have hcl6 : s.vm.findClass zX = some ce.cls := by
    have e6 : ((T.setVm vm₁).calling (F0 m pc ls rest) mk #[.ref xo, .int x]).vm.findClass zX = s.vm.findClass zX := hWU.alike.findClass ..
    rw [← e6]; exact h6
  obtain ⟨vm₂, X₂, st2⟩ := z_catch X' hsplit C.2.2.2.1 (hwd _ hcl) h0 (a := a) (cell := ce) (by rw [← hth]; exact h5) h7 hcl6 (va_asg _ _) (g := F0 m pc ls rest) rfl hcv
  have hkp : ∀ (q : Nat) (y : Cell), s.heap[q]? = some y → T'.heap[q]? = some y := fun q y h => z_same hB' q y (by show T.heap[q]? = _; rw [hT]; exact h)
  obtain ⟨tt, a1, b1⟩ := kk T'.heap a (by
    have h8 : T.heap.size ≤ T'.heap.size := hB'.2.1
    rw [← hT]; exact h8) hkp (T'.setVm vm₂) rfl X₂
  refine ⟨tt, hstep₁ _ (fun acts => ?_), b1⟩
  refine Steps.trans ?_ (st2 _ a1)
  rw [← ht]
  refine Steps.weaken (mid := [.java (F0 m pc ls rest)]) ?_
  have hd9 := hdo acts
  show Steps p.tables e (.java (F0 m pc ls rest) :: below) (doInvoke e ((T.setVm vm₁).setTop (F0 m pc ls rest)) acts mk #[.ref xo, .int x]).1 t
  rw [hd9]
  exact st
end ZCall


def f2_at (rov : Nat → Nat) (k : Nat) : Int32 := nI (rov k)
set_option maxRecDepth 100000 in
set_option maxHeartbeats 4000000 in
theorem kX2_at (l : Launch) (D : va_G) (xo : Nat) (nt : Nat) (es : Nat) (ro : Nat) (ad : Nat → Nat) (cI : ClassId) (cJ : ClassId) (cZ : ClassId) (ln : Int32) (fz : Nat) (sx : Bool) (mo : Int32) (sn : Nat) (bw : Int32) (tkv : Nat → Int64) (opv : Nat → Int64) (shv : Nat → Int64) (ldv : Nat → Int32) (wyv : Nat → Int64) (bdv : Nat → Bool) (ct : Nat) (dA : Nat) (sta : Nat) (stc : Int64) (fev : Nat → Nat) (dl : Nat) (dnv : Nat → Int64) (rov : Nat → Nat) (k : Nat) (rl : Nat) (hln : ln = nI rl) (hr20 : rl ≤ 20) (hkr : k < rl) : gz_M l yX2_at cX2_at 2 (some .int) ({ frames := 0, cells := 0, slots := 0, locals := 0 } : Room) D [(cI, .int), (cJ, .long), (cZ, .boolean)] [.ref xo, .int (nI k)] (wC xo nt es ro ad cI cJ cZ ln fz sx mo sn bw tkv opv shv ldv wyv bdv ct dA dA sta stc fev dl dnv rov) (some (.int (f2_at rov k))) (wC xo nt es ro ad cI cJ cZ ln fz sx mo sn bw tkv opv shv ldv wyv bdv ct dA dA sta stc fev dl dnv rov) 0 0 := by
  refine gz_met l (by decide) (Nat.le_of_ble_eq_true rfl) [(0, .ref xo), (1, .int (nI k))] rfl ?_
  intro sz p e s m args below meth c C hr hk hnm
  have C : gz_C p s m args c cX2_at 2 RX2 D [(cI, .int), (cJ, .long), (cZ, .boolean)] (va_A (wC xo nt es ro ad cI cJ cZ ln fz sx mo sn bw tkv opv shv ldv wyv bdv ct dA dA sta stc fev dl dnv rov) sz) := C
  refine gz_iload_n C 1 dX2_at_0 rfl ?_
  refine gz_if_lt C 12 dX2_at_1 (by decide) (fun h_1 => absurd h_1 (nI_pos (by omega))) (fun _ => ?_)
  refine gz_iload_n C 1 dX2_at_4 rfl ?_
  refine gz_aload_n C 0 dX2_at_5 rfl ?_
  refine gz_get (ci := 3) C iwX2 0 rfl rfl 3 (by decide) wk_82 rfl rfl dX2_at_6 ?_
  refine gz_sw (v := .int ln) (w := .int (nI rl)) (by rw [hln]) ?_
  refine gz_ncmp_lt C 22 (by omega) (by omega) dX2_at_9 (by decide) (fun h_2 => ?_) (fun h_2 => ?_)
  · skip
    refine gz_aload_n C 0 dX2_at_22 rfl ?_
    refine gz_get (ci := 3) C iwX2 0 rfl rfl 2 (by decide) wk_81 rfl rfl dX2_at_23 ?_
    refine gz_iload_n C 1 dX2_at_26 rfl ?_
    refine gz_iald C 11 0 rfl rfl (by omega) (by decide) dX2_at_27 ?_
    exact gz_iret C hr hk (by first | rfl | (simp only [f2_at, if_pos h_2]) | (simp only [f2_at, if_pos h_2]; rfl)) rfl (Nat.le_refl _) (Nat.le_refl _) dX2_at_28
  · have g_2 : ¬ (k < rl) := (Nat.not_lt.mpr h_2)
    exfalso; omega

def f3_thrown (thr : Int32) : Int32 := thr
set_option maxRecDepth 100000 in
set_option maxHeartbeats 4000000 in
theorem kX3_thrown (l : Launch) (D : va_G) (h : Nat) (ad : Nat → Nat) (cI : ClassId) (cJ : ClassId) (cZ : ClassId) (thr : Int32) (sn : Nat) (tkv : Nat → Int64) (opv : Nat → Int64) (shv : Nat → Int64) (ldv : Nat → Int32) (lim : Int32) (wyv : Nat → Int64) (bdv : Nat → Bool) (isr : Bool) (rn : Nat) (rdv : Nat → Nat) (fz : Nat) (icv : Nat → Nat) (exa : Bool) (fr : Nat) (fev : Nat → Nat) (eav : Nat → Int64) (rs : Nat) (rov : Nat → Nat)  : gz_M l yX3_thrown cX3_thrown 1 (some .int) ({ frames := 0, cells := 0, slots := 0, locals := 0 } : Room) D [(cI, .int), (cJ, .long), (cZ, .boolean)] [.ref h] (wM h ad cI cJ cZ thr sn tkv opv shv ldv lim wyv bdv isr rn rdv fz icv exa fr fev eav rs rov) (some (.int (f3_thrown thr))) (wM h ad cI cJ cZ thr sn tkv opv shv ldv lim wyv bdv isr rn rdv fz icv exa fr fev eav rs rov) 0 0 := by
  refine gz_met l (by decide) (Nat.le_of_ble_eq_true rfl) [(0, .ref h)] rfl ?_
  intro sz p e s m args below meth c C hr hk hnm
  have C : gz_C p s m args c cX3_thrown 1 RX3 D [(cI, .int), (cJ, .long), (cZ, .boolean)] (va_A (wM h ad cI cJ cZ thr sn tkv opv shv ldv lim wyv bdv isr rn rdv fz icv exa fr fev eav rs rov) sz) := C
  refine gz_aload_n C 0 dX3_thrown_0 rfl ?_
  refine gz_get (ci := 4) C iwX3 0 rfl rfl 0 (by decide) wk_380 rfl rfl dX3_thrown_1 ?_
  exact gz_iret C hr hk (by first | rfl | (simp only [f3_thrown]) | (simp only [f3_thrown]; rfl)) rfl (Nat.le_refl _) (Nat.le_refl _) dX3_thrown_4


/-- what the law's own at() answers, and leaves in its row of one -/
def fL_at (ln : Int32) (x : Int32) : Int32 := if x < 0 ∨ ¬ x < ln then 1 else 0
def fL_at_lov (ln : Int32) (rov : Nat → Nat) (lov : Nat → Int64) (x : Int32) : Nat → Int64 := if x < 0 ∨ ¬ x < ln then lov else va_up lov 0 (nI (rov (cl x))).toInt64
def gz_MW (l : Launch) (y : MethodName) (cc : ByteArray) (nL : Nat) (ret : Option FieldType) (hh : List (Nat × Nat × Nat × Nat)) (rm : Room) (D : va_G) (tys : List (ClassId × FieldType)) (av : List Value) (ws : va_W) (ov : Option Value) (ws2 : va_W) (mc ms : Nat) : Prop := ∀ sz : Nat, Met l y (.codeWith y cc nL ret hh :: WB) rm (va_Pc av (fun U => gz_P D tys ws sz U ∧ ZT U)) (gz_Q D tys ov ws2 (va_A ws sz)) mc ms (va_A ws sz)
theorem q2_lnx {ln x : Int32} {rl : Nat} (hln : ln = (-1) ∧ rl = 0 ∨ ln = nI rl) (hr20 : rl ≤ 20) (h : ¬ (x < 0 ∨ ¬ x < ln)) : ln = nI rl ∧ x = nI (cl x) ∧ cl x < rl := by
  have h0 : ¬ x < 0 := fun z => h (Or.inl z)
  have h1 : x < ln := Classical.byContradiction fun z => h (Or.inr z)
  have h2 := cl_of h0
  have h3 := cl_lt x h0
  rcases hln with ⟨rfl, -⟩ | rfl
  · exfalso
    rw [h2] at h1
    have h4 : nI (cl x) < 0 := Int32.lt_of_lt_of_le h1 (by decide)
    exact absurd h4 (nI_pos h3)
  · refine ⟨rfl, h2, ?_⟩
    rw [h2] at h1
    exact (nI_ltI h3 (by omega)).mp h1
set_option maxRecDepth 100000 in
set_option maxHeartbeats 4000000 in
theorem kL_at (l : Launch) (hfl : l.flags = flags0) (D : va_G) (xo : Nat) (nt : Nat) (es : Nat) (ro : Nat) (ad : Nat → Nat) (cI : ClassId) (cJ : ClassId) (cZ : ClassId) (ln : Int32) (fz : Nat) (sx : Bool) (mo : Int32) (sn : Nat) (bw : Int32) (tkv : Nat → Int64) (opv : Nat → Int64) (shv : Nat → Int64) (ldv : Nat → Int32) (wyv : Nat → Int64) (bdv : Nat → Bool) (ct : Nat) (dA : Nat) (sta : Nat) (stc : Int64) (fev : Nat → Nat) (dl : Nat) (dnv : Nat → Int64) (rov : Nat → Nat) (rl : Nat) (lo : Nat) (lov : Nat → Int64) (x : Int32) (hln : ln = (-1) ∧ rl = 0 ∨ ln = nI rl) (hr20 : rl ≤ 20) : gz_MW l yL_at cL_at 4 (some .int) [(0, 9, 12, 13)] ({ frames := 8, cells := 1, slots := 6, locals := 140 } : Room) D [(cI, .int), (cJ, .long), (cZ, .boolean)] [.ref xo, .int x, .ref lo] ((wC xo nt es ro ad cI cJ cZ ln fz sx mo sn bw tkv opv shv ldv wyv bdv ct dA dA sta stc fev dl dnv rov) ++ [(lo, .inl (cJ, 1, .inr (.inl lov)))]) (some (.int (fL_at ln x))) ((wC xo nt es ro ad cI cJ cZ ln fz sx mo sn bw tkv opv shv ldv wyv bdv ct dA dA sta stc fev dl dnv rov) ++ [(lo, .inl (cJ, 1, .inr (.inl (fL_at_lov ln rov lov x))))]) 1 6 := by
  intro sz
  refine va_MetW (cc := cL_at) (maxL := 4) (ret := some .int) (hh := [(0, 9, 12, 13)]) (by decide) rfl ?_
  intro p e s m args below meth c s₁ B hml hv
  obtain ⟨rfl, ⟨hsz, hP, hK, hD0, hNw⟩, hZ⟩ := hv
  have hts := atoms_spec (ws := .codeWith yL_at cL_at 4 (some .int) [(0, 9, 12, 13)] :: WB) B.pre
  subst hsz
  have hl := lv_entry [.ref xo, .int x, .ref lo] (n := 4) (Nat.le_of_ble_eq_true rfl)
  rw [lg_entry_eq]
  have C : gz_C p s m ([Value.ref xo, .int x, .ref lo] : List Value).toArray c cL_at 4 RL D [(cI, .int), (cJ, .long), (cZ, .boolean)] (va_A ((wC xo nt es ro ad cI cJ cZ ln fz sx mo sn bw tkv opv shv ldv wyv bdv ct dA dA sta stc fev dl dnv rov) ++ [(lo, .inl (cJ, 1, .inr (.inl lov)))]) s.heap.size) := ⟨B.exec, B.bytes, hml, findClass_of_methodNamed B.named, fun w hw => hts w (List.mem_cons_of_mem _ hw), hK, fun q h => Or.inr h, hNw⟩
  have hk : meth.locks = false := B.notSynchronized
  have hr : meth.sig.returnType = some .int := B.returns
  by_cases hx : x < 0 ∨ ¬ x < ln
  · obtain ⟨m9, meth9, c9, hn9, hm9, hc9, -, -, hex9, -⟩ := Cond.codeWith_spec (hts _ List.mem_cons_self)
    cases B.named.symm.trans hn9
    cases B.method.symm.trans hm9
    have hcc : c = c9 := Option.some.inj ((Stand.of_body B).code.symm.trans hc9)
    subst hcc
    have hsp : ∃ xe : ExceptionTableEntry, c.exceptionTable.toList = [xe] ∧ xe.startPc = 0 ∧ xe.endPc = 9 ∧ xe.handlerPc = 12 ∧ xe.catchType = 13 := by
      cases hq : c.exceptionTable.toList with
      | nil => rw [hq] at hex9; simp at hex9
      | cons a t =>
        rw [hq] at hex9
        simp only [List.map_cons, List.cons.injEq, Prod.mk.injEq, List.map_eq_nil_iff] at hex9
        obtain ⟨⟨i1, i2, i3, i4⟩, i5⟩ := hex9
        exact ⟨a, by rw [i5], i1, i2, i3, i4⟩
    obtain ⟨xe, hs1, j1, j2, j3, j4⟩ := hsp
    have hft : e.platform.stackTraces = false := Launch.traces_off hfl (Stand.of_body B).admits
    refine lv_aload_n C.1 C.2.1 dL_at_0 rfl (lv_at hl 2 rfl) ?_
    refine lv_iconst (v := 0) C.1 C.2.1 dL_at_1 (by decide) ?_
    refine lv_aload_n C.1 C.2.1 dL_at_2 rfl (lv_at hl 0 rfl) ?_
    refine lv_iload_n C.1 C.2.1 dL_at_3 rfl (lv_at hl 1 rfl) ?_
    refine z_callAt (rest := [.int 0, .ref lo]) hft C hZ hs1 (by rw [j4]; decide) (by simp [covers, j1, j2]) (by rw [j4]; exact wk_297) wk_298 hP rfl hl.1 hx (Nat.le_of_ble_eq_true rfl) dL_at_4 ⟨by decide, by decide, by decide, by decide⟩ (fun H' a hle hkp => ?_)
    rw [j3]
    have hkP : ∀ (k : Nat) (q : Nat × va_E), ((wC xo nt es ro ad cI cJ cZ ln fz sx mo sn bw tkv opv shv ldv wyv bdv ct dA dA sta stc fev dl dnv rov) ++ [(lo, .inl (cJ, 1, .inr (.inl lov)))])[k]? = some q → H'[q.1]? = s.heap[q.1]? := fun k q hq => by
      have hlt := (hP k q hq).lt
      rw [hkp q.1 _ (Array.getElem?_eq_getElem hlt), Array.getElem?_eq_getElem hlt]
    have hGZ : GZ p l e ({ frames := 8, cells := 1, slots := 6, locals := 140 } : Room) s m ([Value.ref xo, .int x, .ref lo] : List Value).toArray below meth c 4 D (va_A ((wC xo nt es ro ad cI cJ cZ ln fz sx mo sn bw tkv opv shv ldv wyv bdv ct dA dA sta stc fev dl dnv rov) ++ [(lo, .inl (cJ, 1, .inr (.inl lov)))]) s.heap.size) 1 6 (MQ below (gz_Q D [(cI, .int), (cJ, .long), (cZ, .boolean)] (some (.int (fL_at ln x))) ((wC xo nt es ro ad cI cJ cZ ln fz sx mo sn bw tkv opv shv ldv wyv bdv ct dA dA sta stc fev dl dnv rov) ++ [(lo, .inl (cJ, 1, .inr (.inl (fL_at_lov ln rov lov x))))]) (va_A ((wC xo nt es ro ad cI cJ cZ ln fz sx mo sn bw tkv opv shv ldv wyv bdv ct dA dA sta stc fev dl dnv rov) ++ [(lo, .inl (cJ, 1, .inr (.inl lov)))]) s.heap.size)) ([Value.ref xo, .int x, .ref lo] : List Value).toArray s 1 6 (va_A ((wC xo nt es ro ad cI cJ cZ ln fz sx mo sn bw tkv opv shv ldv wyv bdv ct dA dA sta stc fev dl dnv rov) ++ [(lo, .inl (cJ, 1, .inr (.inl lov)))]) s.heap.size)) ((wC xo nt es ro ad cI cJ cZ ln fz sx mo sn bw tkv opv shv ldv wyv bdv ct dA dA sta stc fev dl dnv rov) ++ [(lo, .inl (cJ, 1, .inr (.inl lov)))]) [(0, .ref xo), (1, .int x), (2, .ref lo)] [.ref a] 12 := by
      refine gz_astore_n (lv2 := [(3, .ref a), (0, .ref xo), (1, .int x), (2, .ref lo)]) C dL_at_12 (by decide) rfl ?_
      refine gz_iconst (v := 1) C dL_at_13 (by decide) ?_
      exact gz_iret C hr hk (by simp only [fL_at, if_pos hx]) (by simp only [fL_at_lov, if_pos hx]) (Nat.le_refl _) (Nat.le_refl _) dL_at_14
    exact hGZ H' [] _ (hP.kept hkP) hD0.self ⟨hle, fun q h1 _ => by rw [hkp q _ (Array.getElem?_eq_getElem h1), Array.getElem?_eq_getElem h1], fun _ h => absurd h List.not_mem_nil⟩ hl
  · obtain ⟨h1, h2, h3⟩ := q2_lnx hln hr20 hx
    have hGZ : GZ p l e ({ frames := 8, cells := 1, slots := 6, locals := 140 } : Room) s m ([Value.ref xo, .int x, .ref lo] : List Value).toArray below meth c 4 D (va_A ((wC xo nt es ro ad cI cJ cZ ln fz sx mo sn bw tkv opv shv ldv wyv bdv ct dA dA sta stc fev dl dnv rov) ++ [(lo, .inl (cJ, 1, .inr (.inl lov)))]) s.heap.size) 0 0 (MQ below (gz_Q D [(cI, .int), (cJ, .long), (cZ, .boolean)] (some (.int (fL_at ln x))) ((wC xo nt es ro ad cI cJ cZ ln fz sx mo sn bw tkv opv shv ldv wyv bdv ct dA dA sta stc fev dl dnv rov) ++ [(lo, .inl (cJ, 1, .inr (.inl (fL_at_lov ln rov lov x))))]) (va_A ((wC xo nt es ro ad cI cJ cZ ln fz sx mo sn bw tkv opv shv ldv wyv bdv ct dA dA sta stc fev dl dnv rov) ++ [(lo, .inl (cJ, 1, .inr (.inl lov)))]) s.heap.size)) ([Value.ref xo, .int x, .ref lo] : List Value).toArray s 1 6 (va_A ((wC xo nt es ro ad cI cJ cZ ln fz sx mo sn bw tkv opv shv ldv wyv bdv ct dA dA sta stc fev dl dnv rov) ++ [(lo, .inl (cJ, 1, .inr (.inl lov)))]) s.heap.size)) ((wC xo nt es ro ad cI cJ cZ ln fz sx mo sn bw tkv opv shv ldv wyv bdv ct dA dA sta stc fev dl dnv rov) ++ [(lo, .inl (cJ, 1, .inr (.inl lov)))]) [(0, .ref xo), (1, .int x), (2, .ref lo)] [] 0 := by
      refine gz_aload_n C 2 dL_at_0 rfl ?_
      refine gz_iconst (v := nI 0) C dL_at_1 (by decide) ?_
      refine gz_aload_n C 0 dL_at_2 rfl ?_
      refine gz_iload_n C 1 dL_at_3 rfl ?_
      refine gz_sw (v := .int x) (w := .int (nI (cl x))) (by rw [← h2]) ?_
      refine gz_callV (wr := [(lo, .inl (cJ, 1, .inr (.inl lov)))]) (n := 1) (ws2 := [(lo, .inl (cJ, 1, .inr (.inl lov)))] ++ (wC xo nt es ro ad cI cJ cZ ln fz sx mo sn bw tkv opv shv ldv wyv bdv ct dA dA sta stc fev dl dnv rov)) (st2 := [.int (f2_at rov (cl x)), .int (nI 0), .ref lo]) (cells2 := 0) (slots2 := 0) (ci := 3) C (kX2_at l D xo nt es ro ad cI cJ cZ ln fz sx mo sn bw tkv opv shv ldv wyv bdv ct dA sta stc fev dl dnv rov (cl x) rl h1 hr20 h3) (WB_V wk_298 wk_299 wk_300 wk_1 wk_301) (by decide +kernel) ⟨⟨rfl, rfl⟩, by decide, by decide⟩ [0, 1, 2, 3, 4, 5, 6, 7, 8, 9, 10, 11] [12] [0, 1, 2] rfl rfl rfl (by decide) rfl 0 rfl rfl rfl rfl (Nat.le_of_ble_eq_true rfl) dL_at_4 ⟨Nat.zero_le _, Nat.zero_le _⟩ rfl rfl rfl ?_
      refine gz_ws (ws2 := ((wC xo nt es ro ad cI cJ cZ ln fz sx mo sn bw tkv opv shv ldv wyv bdv ct dA dA sta stc fev dl dnv rov) ++ [(lo, .inl (cJ, 1, .inr (.inl lov)))])) [1, 2, 3, 4, 5, 6, 7, 8, 9, 10, 11, 12, 0] (by decide) rfl ?_
      refine gz_i2l (v := (nI (rov (cl x))).toInt64) C dL_at_7 rfl ?_
      refine gz_last (ws2 := ((wC xo nt es ro ad cI cJ cZ ln fz sx mo sn bw tkv opv shv ldv wyv bdv ct dA dA sta stc fev dl dnv rov) ++ [(lo, .inl (cJ, 1, .inr (.inl (va_up lov 0 (nI (rov (cl x))).toInt64))))])) C 12 1 rfl rfl (by decide) (by decide) rfl dL_at_8 ?_
      refine gz_goto C 15 dL_at_9 (by decide) ?_
      refine gz_iconst (v := 0) C dL_at_15 (by decide) ?_
      exact gz_iret C hr hk (by simp only [fL_at, if_neg hx]) (by simp only [fL_at_lov, if_neg hx]) (by decide) (by decide) dL_at_16
    exact hGZ s.heap [] _ hP hD0.self va_S.rf hl


section LWK
variable {p : Program} {l : Launch} {e : Env} {R : Room} {s : State} {m : MethodId} {args : Array Value} {below : List Frame} {meth : Method} {c : Code} {cells slots : Nat} {Q : State → Prop}
variable {cc : ByteArray} {pc nL : Nat} {own : String} {D : va_G} {tys : List (ClassId × FieldType)} {A : Nat → Prop} {ws ws2 : va_W} {lv lv2 : List (Nat × Value)} {st : List Value}
/-- the law's own script -/
def lwX (b L : Nat) (xs : Nat → Int32) (s : State) (A : Nat → Prop) : Prop := va_X b L xs s s.heap ∧ b < s.heap.size ∧ ¬ A b ∧ L ≤ 3584
theorem gz_sld (C : gz_C p s m args c cc nL own D tys A) {b L : Nat} {xs : Nat → Int32} (hX : lwX b L xs s A) {k : Nat} (hk : k < L) (hdg : decode cc pc = .ok (.iaload, 1)) (kk : GZ p l e R s m args below meth c nL D A cells slots Q ws lv (.int (xs k) :: st) (pc + 1)) : GZ p l e R s m args below meth c nL D A cells slots Q ws lv (.int (nI k) :: .ref b :: st) pc := by
  intro H locs ls hP hD hS hl
  have h9 := kk H locs ls hP hD hS hl
  have hk2 : k < 2 ^ 31 := by have := hX.2.2.2; omega
  have e9 : (nI k).toNatClampNeg = k := nI_clamp hk2
  refine va_sld C.1 C.2.1 hX.1 hX.2.1 hX.2.2.1 hS (vp_in_nI hk (by have := hX.2.2.2; omega)) hdg ?_
  rw [e9]
  exact h9
theorem gz_slen (C : gz_C p s m args c cc nL own D tys A) {b L : Nat} {xs : Nat → Int32} (hX : lwX b L xs s A) (hdg : decode cc pc = .ok (.arraylength, 1)) (kk : GZ p l e R s m args below meth c nL D A cells slots Q ws lv (.int (nI L) :: st) (pc + 1)) : GZ p l e R s m args below meth c nL D A cells slots Q ws lv (.ref b :: st) pc := by
  intro H locs ls hP hD hS hl
  exact va_slen C.1 C.2.1 hX.1 hX.2.1 hX.2.2.1 hS hdg (kk H locs ls hP hD hS hl)
theorem gz_tabIn (C : gz_C p s m args c cc nL own D tys A) {dflt lo hi : Int} {offs : Array Int} {len : Nat} {x : Int32} {off : Int} (tgt : Nat) (hdg : decode cc pc = .ok (.tableswitch dflt lo hi offs, len)) (h1 : ¬ x.toInt < lo) (h2 : ¬ hi < x.toInt) (ho : offs[(x.toInt - lo).toNat]? = some off) (ht : (pc : Int) + off = (tgt : Int)) (kk : GZ p l e R s m args below meth c nL D A cells slots Q ws lv st tgt) : GZ p l e R s m args below meth c nL D A cells slots Q ws lv (.int x :: st) pc :=
  fun H locs ls hP hD hS hl => lv_tableIn C.1 C.2.1 hdg h1 h2 ho ht (kk H locs ls hP hD hS hl)
theorem gz_tabOut (C : gz_C p s m args c cc nL own D tys A) {dflt lo hi : Int} {offs : Array Int} {len : Nat} {x : Int32} (tgt : Nat) (hdg : decode cc pc = .ok (.tableswitch dflt lo hi offs, len)) (h : x.toInt < lo ∨ hi < x.toInt) (ht : (pc : Int) + dflt = (tgt : Int)) (kk : GZ p l e R s m args below meth c nL D A cells slots Q ws lv st tgt) : GZ p l e R s m args below meth c nL D A cells slots Q ws lv (.int x :: st) pc :=
  fun H locs ls hP hD hS hl => lv_tableOut C.1 C.2.1 hdg h ht (kk H locs ls hP hD hS hl)
/-- a call of a static method with an exception table -/
theorem gz_callSW (C : gz_C p s m args c cc nL own D tys A) {y : MethodName} {rm : Room} {mc ms : Nat} {ov : Option Value} {ret : Option FieldType} {cc2 : ByteArray} {nL2 index n : Nat} {hh : List (Nat × Nat × Nat × Nat)} {As rest : List Value} {wc w1 wr : va_W} {tys1 : List (ClassId × FieldType)} (hM : gz_MW l y cc2 nL2 ret hh rm D tys1 As wc ov w1 mc ms)
    (hZ : ZT s) (hA : ∀ q : Nat, A q → s.heap.size ≤ q) (hcode : Cond.codeWith y cc2 nL2 ret hh ∈ WB) (hlink : Cond.methodLink own index y ∈ WB) (hstat : Cond.static y ∈ WB) (hini : Cond.initialized y.cls ∈ WB)
    (hd : y.cls ≠ "java/lang/invoke/MethodHandle" ∧ y.cls ≠ "java/lang/invoke/VarHandle" ∧ (parseMethodDescriptor y.desc).map (fun d => d.parameters.length) = some n) (hR0 : (rm.cells = mc ∧ rm.slots = ms) ∧ rm.frames + 1 ≤ R.frames ∧ 8 + (nL2 + 11) + rm.locals ≤ R.locals)
    (isC isR isT : List Nat) (hC : isC.map (fun i => ws[i]?) = wc.map some) (hR : isR.map (fun i => ws[i]?) = wr.map some) (hT : isT.filterMap (fun i => tys[i]?) = tys1) (hn : va_nd isC = true ∧ va_nd isR = true ∧ ∀ i ∈ isR, i ∉ isC) (h2 : wr ++ w1 = ws2)
    (hlen : As.length = n) (hst : st = As.reverse ++ rest) (hrs : (rest.map fun v => v.category).sum ≤ 8) (hdg : decode cc pc = .ok (.invokestatic index, 3)) (hf : cells + mc ≤ R.cells ∧ slots + ms ≤ R.slots) {st2 : List Value} (h3 : ov.toList ++ rest = st2) {cells2 slots2 : Nat} (hc2 : cells + mc = cells2) (hs2 : slots + ms = slots2)
    (kk : GZ p l e R s m args below meth c nL D A cells2 slots2 Q ws2 lv st2 (pc + 3)) : GZ p l e R s m args below meth c nL D A cells slots Q ws lv st pc := by
  subst h3; subst hc2; subst hs2
  intro H locs ls hP hD hS hl
  have hPc : va_P D vwCl wc H := hP.sub isC (by have h3 := congrArg (List.filterMap id) hC; simpa [List.filterMap_map, Function.comp] using h3)
  have hDc := hD.sub isC hn.1 hC
  have hKc := C.2.2.2.2.2.1.sub isT hT
  have hold : ∀ (q : Nat) (x : Cell), s.heap[q]? = some x → H[q]? = some x := fun q x h => by
    have hq : q < s.heap.size := (Array.getElem?_eq_some_iff.mp h).1
    rw [hS.2.1 q hq (fun z => by have := hA q z; omega)]; exact h
  have hwd := C.2.2.2.2.1
  have hws : ∀ w ∈ (Cond.codeWith y cc2 nL2 ret hh :: WB), ∀ (a' : Array Value) (U : State), s.WarmedH U.vm → w.before a' U = true := fun w hw a' U hW => by
    rcases List.mem_cons.mp hw with q | q
    · rw [q]; exact pay_in hwd WB_good _ hcode _ _ hW
    · exact pay_in hwd WB_good _ q _ _ hW
  have hbl : FrameBlind (va_Pc As (fun U => gz_P D tys1 wc H.size U ∧ ZT U)) := fun a U g mk q => by
    obtain ⟨q0, ⟨q1, qP, qK, qD, qN⟩, qZ⟩ := q
    exact ⟨q0, ⟨q1, qP, va_K.moved (u := U) (U := U.calling g mk a) (Vm.Alike.refl U.vm) qK, qD, NWs_same (u := U) rfl qN⟩, ZT.to (U := U.calling g mk a) (State.WarmedH.refl U) (fun _ _ h => h) qZ⟩
  have hK : Back l R p e below s args y 3 8 (PreOf R mc ms (va_Pc As (fun U => gz_P D tys1 wc H.size U ∧ ZT U))) (PostOf (gz_Q D tys1 ov w1 (va_A wc H.size)) mc ms (va_A wc H.size)) :=
    va_backW (hh := hh) (bytes := cc2) (maxL := nL2) (ret := ret) (hM H.size) hbl hR0.1.1 hR0.1.2 hR0.2.1 hR0.2.2 hws List.mem_cons_self (fun a' U hW => pay_in hwd WB_good _ hini _ _ hW)
  have hrun : va_Run p l e R s m args below meth c H locs cells slots mc ms (F0 m pc ls st) rest (gz_Q D tys1 ov w1 (va_A wc H.size) As.toArray) (va_A wc H.size) := by
    intro T hT0 X
    obtain ⟨mk, methM, cM, hnamed, hmethM, -, -, -, -, -, -, hsigM⟩ := Cond.codeWith_spec (hwd _ hcode)
    have hstatic : methM.isStatic = true := Cond.static_spec hnamed hmethM (hwd _ hstat)
    obtain ⟨kP, hkP, -⟩ := className_of_methodNamed hnamed
    have hinitP : kP.init = .initialized := Cond.initialized_spec (findClass_of_methodNamed hnamed) hkP (hwd _ hini)
    obtain ⟨vm₁, X₁, hstep₁⟩ := X.invokestatic (g := F0 m pc ls st) C.1 C.2.2.2.1 (hwd _ hlink) hnamed hmethM hstatic hkP hinitP ⟨hd.1, hd.2.1⟩ rfl (argsL := As) (rest := rest) (by
      have h9 := hd.2.2
      rw [hsigM] at h9
      rw [hlen]
      exact (Option.some.inj h9).symm) hst (by rw [C.2.1]; exact hdg)
    obtain ⟨v, ⟨U', l2, c2, s2⟩, X', hpost, hsteps⟩ := hK m meth c ⟨T.setVm vm₁, locs, cells, slots⟩ (F0 m pc ls rest) (.invokestatic index) mk As.toArray X₁ rfl (hl.1.trans C.2.2.1.symm) (by rw [C.2.1]; exact hdg) (lv_room hrs) (X₁.named hnamed) ⟨hf.1, hf.2, rfl, ⟨by show T.heap.size = _; rw [hT0], by show va_P D vwCl wc T.heap; rw [hT0]; exact hPc, va_K.moved X₁.warmed.alike hKc, hDc.weaken (fun _ _ _ _ => trivial), NWs_warm X₁.warmed C.2.2.2.2.2.2.2⟩, ZT.to X₁.warmed (fun q x h => by show T.heap[q]? = _; rw [hT0]; exact hold q x h) hZ⟩
    obtain ⟨g', mk', t, L, e1, e2, hq, h1, hL, h2', h3'⟩ := hpost
    dsimp only [Pt.U, Pt.locs, Pt.cells, Pt.slots] at X' e1 e2 h1 h2' h3' hsteps
    subst h1; subst h2'; subst h3'
    exact ⟨v, (T.setVm vm₁).calling g' mk' As.toArray, t, U', L, hT0, X', hL, e1, e2, hq, fun target h => hstep₁ _ fun acts => by rw [doInvoke_state]; exact hsteps.trans h⟩
  exact gz_back isC isR hC hR hn.2.1 hn.2.2 h2 C.2.2.2.2.2.2.1 hP hD hS hl hrun kk
end LWK
theorem z_arr {args : Array Value} {s : State} {ty : FieldType} (h : (Cond.arrayClass ty).before args s = true) : ∃ cA : ClassId, ArrOfT s cA ty ∧ s.vm.findClass ("[" ++ ty.toString) = some cA := by
  obtain ⟨cA, kA, comp, h1, h2, h3⟩ := Cond.arrayClass_spec h
  exact ⟨cA, fun n z => ⟨fun k h => (by cases h), kA, h2, comp, h3⟩, h1⟩
theorem lw_and15 (x : Int32) : ∃ k : Nat, k ≤ 15 ∧ x &&& nI 15 = nI k := by
  refine ⟨(x &&& nI 15).toBitVec.toNat, ?_, ?_⟩
  · have h : (x &&& nI 15).toBitVec.toNat = x.toBitVec.toNat &&& 15 := by
      rw [Int32.toBitVec_and, BitVec.toNat_and]; rfl
    rw [h]; exact Nat.and_le_right
  · apply Int32.toBitVec_inj.mp
    show _ = (Int32.ofNat _).toBitVec
    rw [Int32.toBitVec_ofNat', BitVec.ofNat_toNat, BitVec.setWidth_eq]
theorem lw_cmp {i L : Nat} (hi : i ≤ 4000) (hL : L ≤ 3584) : (nI L - nI 7 < nI i) ↔ L < i + 7 := by
  have h7 : (nI 7).toInt = 7 := by decide
  have hLt : (nI L).toInt = L := Int32.toInt_ofNat_of_lt (by omega)
  have hit : (nI i).toInt = i := Int32.toInt_ofNat_of_lt (by omega)
  have e : (nI L - nI 7).toInt = (L : Int) - 7 := by
    rw [Int32.toInt_sub, h7, hLt]
    have e2 : (2 ^ 32 : Nat) = 4294967296 := by decide
    rw [e2]
    simp only [Int.bmod_def]
    split <;> omega
  rw [Int32.lt_iff_toInt_lt, e, hit]
  omega


/-! THE CLAIM OUT OF ONE WALK OF THE LAW'S BODY. Your part is whole_start (and what it stands on); all else here is the same for every law, but numbers. -/
def R_law : String := "RoundSearchLaw"
def lw_P (b : Addr) (xs : List Int32) (args : Array Value) (s : State) : Prop := args = #[.ref b] ∧ s.IntsAt b xs ∧ xs.length ≤ 7 ∧ (Jvm.Cond.and given_1 narrow_1).before args s = true
def lw_Q (_ : Array Value) (s : State) (o : Outcome) (t : State) : Prop := o = .returned (some (.int 1)) ∧ Framed s o t [] 600002 7302232
def lw_Z (below : List Frame) (a : Array Value) (s : State) : State → Prop := fun t => ∃ o, t.status = .running ∧ Ended t below o ∧ lw_Q a s o t
/-- the law's own end, with 1 on the stack, nothing written that was there before, its room as the claim has it -/
theorem lw_ret {p : Program} {l : Launch} {e : Env} {s : State} {m : MethodId} {below : List Frame} {meth : Method} {c : Code} {b : Nat} (hx : p.tables.exec = Jvm.exec) (hb : c.code = code) (hr : meth.sig.returnType = ret) (hlocks : meth.locks = false) {pc : Nat} {H : Heap} {ls : Array Slot} (hdg : decode code pc = .ok (.ireturn, 1)) : W p l e room_1 s m #[Value.ref b] below meth c H [] 600002 7302232 (lw_Z below #[Value.ref b] s) (F0 m pc ls [.int 1]) := by
  intro T hT X
  obtain ⟨fs, hret, hrun, hended, hW, hframe⟩ := X.leave (v := some (.int 1)) (hlocks := hlocks) (fun h => by rw [hr] at h; cases h)
  have hmeth' : T.vm.method? m = some meth := X.method'
  refine ⟨T.setFrames fs, ?_, .returned (some (.int 1)), hrun, hended, rfl, ⟨_, rfl⟩, hW, hframe⟩
  jvm_step X.here [X.here.top, hx, hb, hdg, hmeth', hr, ret, narrow_b1]
  (try refine ⟨rfl, ?_⟩); (try refine ⟨rfl, ?_⟩)
  first | (intro acts; rw [hret _ acts rfl rfl rfl]) | rw [hret _ _ rfl rfl rfl]
  exact Steps.refl _
/-- what holds at the law's entry: the machine, the code, the tables' words (any of lw_tbl by 'hts w (by decide +kernel)'), the script of L ints xs at the cell b, what the Statement gives of the start (any of its parts by flat_of_before) -/
def lw_At (p : Program) (s : State) (m : MethodId) (meth : Method) (c : Code) (b L : Nat) (xs : Nat → Int32) : Prop :=
  p.tables.exec = Jvm.exec ∧ c.code = code ∧ meth.sig.returnType = ret ∧ c.maxLocals = 7 ∧ s.vm.findClass R_law = some m.cls ∧ (∀ w ∈ lw_tbl, w.before #[Value.ref b] s = true) ∧ va_X b L xs s s.heap ∧ b < s.heap.size ∧ meth.locks = false ∧ (Jvm.Cond.and given_1 narrow_1).before #[Value.ref b] s = true


theorem lw_cw : Cond.codeWith yL_at cL_at 4 (some .int) [(0, 9, 12, 13)] ∈ WB := WB_t 296 (by decide +kernel) (by decide +kernel)
