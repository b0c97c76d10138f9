/-- the chain of the exception that at() throws -/
abbrev zX : String := "java/lang/ArrayIndexOutOfBoundsException"
abbrev zNames : List String := ["java/lang/IndexOutOfBoundsException", "java/lang/RuntimeException", "java/lang/Exception"]
def zOwn : List Cond := Bundle.ownAtoms "RoundSearch" 98 zX zNames
def zTab (c : Cond) : Bool := c.onTables && (c.keeps || (match c with | .declares _ => true | .castable .. => true | _ => false))
theorem z_warm {s U : State} (hW : s.WarmedH U.vm) {A A' : Array Value} {c : Cond} (hz : zTab c = true) (h : c.before A s = true) : c.before A' U = true := by
  simp only [zTab, Bool.and_eq_true, Bool.or_eq_true] at hz
  have h1 : c.before A (s.setVm U.vm) = true := by
    refine Cond.before_warmed hW c ?_ h
    rcases hz.2 with hk | hk
    · cases c <;> first | exact hk | trivial | (simp [Cond.keeps, Cond.steady] at hk; done) | exact absurd hz.1 (by simp [Cond.onTables])
    · cases c <;> first | trivial | (simp at hk; done)
  have e := Cond.onTables_vm (A := A) (A' := A') (U := s) (U' := U) U.vm c hz.1
  rw [e] at h1
  exact h1
/-- two words that look at the heap: at the cell of the class's statics -/
theorem z_lays {u U : State} (hv : u.vm = U.vm) (hH : ∀ (q : Nat) (x : Cell), u.heap[q]? = some x → U.heap[q]? = some x) {A A' : Array Value} {C n d : String} (h : (Cond.laysStatic C n d).before A u = true) : (Cond.laysStatic C n d).before A' U = true := by
  have ef : ∀ a b d, U.fieldFound? a b d = u.fieldFound? a b d := fun a b d => by unfold State.fieldFound?; rw [hv]
  simp only [Cond.before, Cond.holds, Cond.value] at h ⊢
  rw [ef, ← hv]
  cases h1 : u.vm.findClass C with
  | none => simp [h1] at h
  | some c =>
    cases h2 : u.fieldFound? C n d with
    | none => simp [h1, h2] at h
    | some q =>
      obtain ⟨c', k, i, f⟩ := q
      simp only [h1, h2] at h ⊢
      cases h3 : k.statics with
      | none => simp [h3] at h
      | some a =>
        simp only [h3, Option.bind_some] at h ⊢
        cases h4 : u.heap[a]? with
        | none => simp [h4] at h
        | some x => rw [hH a x h4]; rw [h4] at h; exact h
theorem z_ref {u U : State} (hv : u.vm = U.vm) (hH : ∀ (q : Nat) (x : Cell), u.heap[q]? = some x → U.heap[q]? = some x) {A A' : Array Value} {C n d : String} (h : (Cond.isRef (.static C n d)).before A u = true) : (Cond.isRef (.static C n d)).before A' U = true := by
  have ef : ∀ a b d, U.fieldFound? a b d = u.fieldFound? a b d := fun a b d => by unfold State.fieldFound?; rw [hv]
  have key : ∀ v, (Term.static C n d).eval A u none [] u = some v → (Term.static C n d).eval A' U none [] U = some v := by
    intro v h
    simp only [Term.eval, State.fieldNamed?] at h ⊢
    rw [ef]
    cases h2 : u.fieldFound? C n d with
    | none => simp [h2] at h
    | some q =>
      obtain ⟨c', k, i, f⟩ := q
      rw [h2] at h
      cases h5 : f.isStatic with
      | false => simp [h5] at h
      | true =>
        cases h3 : k.statics with
        | none => simp [h5, h3] at h
        | some a =>
          cases h4 : u.heap[a]? with
          | none => simp [h5, h3, h4] at h
          | some x => simp [h5, h3, h4] at h; simp [h5, h3, hH a x h4]; exact h
  simp only [Cond.before, Cond.holds, Cond.value] at h ⊢
  cases h1 : (Term.static C n d).eval A u none [] u with
  | none => simp [h1] at h
  | some v => rw [key v h1]; rw [h1] at h; exact h
/-- what a throw of at() stands on: the words of the exception's classes, its text -/
def ZT (U : State) : Prop := (∀ c ∈ zOwn, c.before #[] U = true) ∧ ∃ q, vk_R "RoundSearch" 96 "no such place in the round" q U
def zKind (c : Cond) : Bool := zTab c || (match c with | .laysStatic .. => true | .isRef (.static ..) => true | _ => false)
theorem z_kinds : zOwn.all zKind = true := by decide +kernel
theorem z_move {s U : State} (hW : s.WarmedH U.vm) (hH : ∀ (q : Nat) (x : Cell), s.heap[q]? = some x → U.heap[q]? = some x) {A A' : Array Value} {c : Cond} (hz : zKind c = true) (h : c.before A s = true) : c.before A' U = true := by
  by_cases ht : zTab c = true
  · exact z_warm hW ht h
  · have ht' : zTab c = false := by simpa using ht
    simp only [zKind, ht', Bool.false_or] at hz
    cases c with
    | laysStatic C n d => exact z_lays (u := s.setVm U.vm) (U := U) rfl hH (Cond.before_warmed (args := A) hW _ rfl h)
    | isRef t =>
      cases t with
      | static C n d => exact z_ref (u := s.setVm U.vm) (U := U) rfl hH (Cond.before_warmed (args := A) hW _ rfl h)
      | _ => simp at hz
    | _ => simp at hz
theorem ZT.to {s U : State} (hW : s.WarmedH U.vm) (hH : ∀ (q : Nat) (x : Cell), s.heap[q]? = some x → U.heap[q]? = some x) (h : ZT s) : ZT U :=
  ⟨fun c hc => z_move hW hH (List.all_eq_true.mp z_kinds c hc) (h.1 c hc), h.2.elim fun q hq => ⟨q, vk_R.warm hW hq⟩⟩
theorem ZT.of {A : Array Value} {s : State} (h1 : ∀ w ∈ lw_tbl, w.before A s = true) (h2 : (Jvm.Cond.and given_1 narrow_1).before A s = true) : ZT s := by
  have hn := flat_of_before _ h2
  refine ⟨fun c hc => ?_, ?_⟩
  · have hk : c ∈ lw_tbl ∨ c = Cond.isRef (.static "java/lang/Throwable" "UNASSIGNED_STACK" "[Ljava/lang/StackTraceElement;") ∨ c = Cond.isRef (.static "java/lang/Throwable" "SUPPRESSED_SENTINEL" "Ljava/util/List;") := by
      have h0 : zOwn.all (fun c => decide (c ∈ lw_tbl) || decide (c = Cond.isRef (.static "java/lang/Throwable" "UNASSIGNED_STACK" "[Ljava/lang/StackTraceElement;")) || decide (c = Cond.isRef (.static "java/lang/Throwable" "SUPPRESSED_SENTINEL" "Ljava/util/List;"))) = true := by decide +kernel
      have h3 := List.all_eq_true.mp h0 c hc
      simp only [Bool.or_eq_true, decide_eq_true_eq] at h3
      rcases h3 with (h | h) | h
      · exact Or.inl h
      · exact Or.inr (Or.inl h)
      · exact Or.inr (Or.inr h)
    have hb : c.before A s = true := by
      rcases hk with h | h | h
      · exact h1 c h
      · rw [h]; exact hn _ (by decide +kernel)
      · rw [h]; exact hn _ (by decide +kernel)
    exact z_move (State.WarmedH.refl s) (fun _ _ h => h) (List.all_eq_true.mp z_kinds c hc) hb
  · have he : (Cond.exactly (.string "RoundSearch" 96) "java/lang/String").before A s = true := hn _ (by decide +kernel)
    obtain ⟨a, c, cA, kA, q1, -⟩ := Cond.exactly_spec (args := A) (first := s) (o := none) (s := s) (idx := []) (t := .string "RoundSearch" 96) (cls := "java/lang/String") he
    exact ⟨a, vk_R.of (h1 _ (by decide +kernel)) q1⟩

