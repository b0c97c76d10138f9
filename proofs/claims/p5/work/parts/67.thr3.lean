section ZCall
variable {p : Program} {l : Launch} {e : Env} {R : Room} {s : State} {m : MethodId} {args : Array Value} {below : List Frame} {meth : Method} {c : Code} {Q : State → Prop}
theorem z_same {u t : State} {k n : Nat} (h : u.sameButNew t [] k n) (q : Nat) (x : Cell) (hq : u.heap[q]? = some x) : t.heap[q]? = some x := by
  obtain ⟨-, -, -, -, -, h6⟩ := h
  obtain ⟨x', h1, h2, -, h4⟩ := h6 q x hq
  have e1 : x'.slots = x.slots := Array.ext_getElem? (fun i => h4 i List.not_mem_nil)
  rw [h1, h2, e1]
theorem z_callAt {cc : ByteArray} {nL pc index : Nat} {own : String} {D : va_G} {tys : List (ClassId × FieldType)} {A : Nat → Prop} {ws : va_W} {xo nt es ro : Nat} {ln : Int32} {fz : Nat} {sx : Bool} {mo : Int32} {x : Int32} (hfl : e.platform.stackTraces = false) (C : gz_C p s m args c cc nL own D tys A) (hZ : ZT s) {xe : ExceptionTableEntry} (hsplit : c.exceptionTable.toList = [xe]) (h0 : xe.catchType ≠ 0) (hcv : covers xe pc = true) (hcl : Cond.classLink own xe.catchType zX ∈ WB) (hml : Cond.methodLink own index yX2_at ∈ WB)
    (hP : va_P D vwCl ws s.heap) (hw : ws[0]? = some (xo, .inr (3, [.ref nt, .ref es, .ref ro, .int ln, .int (nI fz), .int (bI sx), .int mo]))) {ls : Array Slot} (hls : ls.size = nL) (hx : x < 0 ∨ ¬ x < ln) {rest : List Value} (hrs : (rest.map fun v => v.category).sum ≤ 8) (hdg : decode cc pc = .ok (.invokevirtual index, 3)) (hR : 8 ≤ R.frames ∧ 131 ≤ R.locals ∧ 1 ≤ R.cells ∧ 6 ≤ R.slots)
    (kk : ∀ (H' : Heap) (a : Nat), s.heap.size ≤ H'.size → (∀ (q : Nat) (x : Cell), s.heap[q]? = some x → H'[q]? = some x) → W p l e R s m args below meth c H' [] 1 6 Q (F0 m xe.handlerPc ls [.ref a])) : W p l e R s m args below meth c s.heap [] 0 0 Q (F0 m pc ls (.int x :: .ref xo :: rest)) := by
  intro T hT X
  have hwd : ∀ w ∈ WB, w.before args s = true := C.2.2.2.2.1
  obtain ⟨mk, methM, hnamed, hmethM, hstM, habM⟩ := Cond.instanceMethod_spec (hwd _ wk_299)
  obtain ⟨methM', cM, hmethM', hcM, hbM, hlM, hrM, hlkM, hexM, hsigM⟩ := Cond.code_spec hnamed (hwd _ wk_301)
  cases hmethM.symm.trans hmethM'
  obtain ⟨c2, r2, m2, q1, q2, q3, q4, kP, hkP, hkPi⟩ := Cond.selects_spec (hwd _ wk_300)
  obtain ⟨cellB, hcB, hoB, hclB⟩ := va_recv (q0 := 0) (ci := 3) C.2.2.2.2.2.1 hP rfl hw
  cases hclB.symm.trans q1
  cases (State.methodFound?_of_named hnamed (by decide)).symm.trans q2
  cases hnamed.symm.trans q3
  have hselP : selectMethod e.platform s.vm cellB.cls mk = .method mk := by rw [Launch.admits_selectMethod X.admits]; exact q4
  obtain ⟨vm₁, X₁, hstep₁⟩ := X.invokevirtual (g := F0 m pc ls (.int x :: .ref xo :: rest)) (argsL := [.int x]) (rest := rest) C.1 C.2.2.2.1 (hwd _ hml) hnamed hmethM hstM hkP hkPi (by decide) (a := xo) (cell := cellB) (by rw [hT]; exact hcB)
    (fun z h => by rw [h] at hoB; cases hoB) hselP hmethM habM hkP hkPi rfl (by
      have h9 : parseMethodDescriptor yX2_at.desc = some ⟨[.int], some .int⟩ := by decide +kernel
      have h8 : some methM.sig = some ⟨[.int], some .int⟩ := hsigM.symm.trans h9
      rw [Option.some.inj h8]; rfl) rfl (by rw [C.2.1]; exact hdg)
  have hn1 := X₁.named hnamed
  have hm1 : (T.setVm vm₁).vm.method? mk = some methM := by rw [X₁.warmed.alike.method?]; exact hmethM
  have hpk : (T.setVm vm₁).plainMethod mk := State.plainMethod.of_named (x := yX2_at) (by decide) hn1 hm1
  obtain ⟨Y, hdo⟩ := X₁.into (g := F0 m pc ls rest) rfl (hls.trans C.2.2.1.symm) (by rw [C.2.1]; exact hdg) (mk := mk) (methk := methM) (ck := cM) #[.ref xo, .int x] (R' := { frames := 7, cells := 1, slots := 6, locals := 110 }) hm1 hcM hlkM hpk hR.1 (by rw [hlM]; show 2 * 0 + (rest.map fun v => v.category).sum + (2 + 11) + 110 ≤ R.locals; omega) (by show 0 + 1 ≤ _; omega) (by show 0 + 6 ≤ _; omega)
  have hWU : s.WarmedH ((T.setVm vm₁).calling (F0 m pc ls rest) mk #[.ref xo, .int x]).vm := X₁.warmed
  have hHU : ((T.setVm vm₁).calling (F0 m pc ls rest) mk #[.ref xo, .int x]).heap = s.heap := hT
  have C2 : gz_C p ((T.setVm vm₁).calling (F0 m pc ls rest) mk #[.ref xo, .int x]) mk #[.ref xo, .int x] cM cX2_at 2 RX2 D tys (fun _ => True) :=
    ⟨C.1, hbM, hlM, findClass_of_methodNamed hn1, fun w hw => pay_in hwd WB_good w hw _ _ hWU, va_K.moved hWU.alike C.2.2.2.2.2.1, fun _ _ => trivial, NWs_warm hWU C.2.2.2.2.2.2.2⟩
  have hbody := z_at (l := l) (R := { frames := 7, cells := 1, slots := 6, locals := 110 }) (below := .java (F0 m pc ls rest) :: below) (meth := methM) (x := x) hfl C2 hexM hlkM (ZT.to hWU (fun q y h => by rw [hHU]; exact h) hZ) ⟨by decide, by decide, by decide, by decide⟩ (by rw [hHU]; exact hP) hw (lv_entry [.ref xo, .int x] (n := 2) (Nat.le_of_ble_eq_true rfl)) hx
  rw [← lg_entry_eq] at hbody
  have hent : entryFrame mk #[.ref xo, .int x] cM.maxLocals = entryFrame mk ([Value.ref xo, .int x] : List Value).toArray 2 := by rw [hlM]
  rw [hent] at Y hdo
  obtain ⟨t, st, a, h1, h2, h3, h4, ce, h5, h6, h7⟩ := hbody (((T.setVm vm₁).setTop (F0 m pc ls rest)).pushFrame (.java (entryFrame mk #[.ref xo, .int x] 2))) (by simp [State.pushFrame, State.setFrames, State.setTop, State.modifyTopJava, State.calling]) Y
  obtain ⟨T', X', hW', hB', ht⟩ := X₁.outOfThrown (g := F0 m pc ls rest) rfl h2 h3 h4
  have hth : t.heap = T'.heap := by rw [ht, Stand.throwing_heap]
  have hcl6 : s.vm.findClass zX = some ce.cls := by
    have e6 : ((T.setVm vm₁).calling (F0 m pc ls rest) mk #[.ref xo, .int x]).vm.findClass zX = s.vm.findClass zX := hWU.alike.findClass ..
    rw [← e6]; exact h6
  obtain ⟨vm₂, X₂, st2⟩ := z_catch X' hsplit C.2.2.2.1 (hwd _ hcl) h0 (a := a) (cell := ce) (by rw [← hth]; exact h5) h7 hcl6 (va_asg _ _) (g := F0 m pc ls rest) rfl hcv
  have hkp : ∀ (q : Nat) (y : Cell), s.heap[q]? = some y → T'.heap[q]? = some y := fun q y h => z_same hB' q y (by show T.heap[q]? = _; rw [hT]; exact h)
  obtain ⟨tt, a1, b1⟩ := kk T'.heap a (by
    have h8 : T.heap.size ≤ T'.heap.size := hB'.2.1
    rw [← hT]; exact h8) hkp (T'.setVm vm₂) rfl X₂
  refine ⟨tt, hstep₁ _ (fun acts => ?_), b1⟩
  refine Steps.trans ?_ (st2 _ a1)
  rw [← ht]
  refine Steps.weaken (mid := [.java (F0 m pc ls rest)]) ?_
  have hd9 := hdo acts
  show Steps p.tables e (.java (F0 m pc ls rest) :: below) (doInvoke e ((T.setVm vm₁).setTop (F0 m pc ls rest)) acts mk #[.ref xo, .int x]).1 t
  rw [hd9]
  exact st
end ZCall

