/-- the tables' words that any state of the run keeps -/
def WB : List Cond := lw_tbl.filter goodWord
theorem WB_t {w : Cond} (i : Nat) (h : tables_1[i]? = some w) (hg : goodWord w = true) : w ∈ WB := List.mem_filter.mpr ⟨List.mem_append_right _ (List.mem_of_getElem? h), hg⟩
theorem WB_s {w : Cond} (i : Nat) (h : (k2_sels lw_privs)[i]? = some w) (hg : goodWord w = true) : w ∈ WB := List.mem_filter.mpr ⟨List.mem_append_left _ (List.mem_of_getElem? h), hg⟩
theorem WB_l {ws : List Cond} (is : List Nat) (h : ws = is.filterMap (fun i => tables_1[i]?)) (hg : ws.all goodWord = true) : ∀ w ∈ ws, w ∈ WB := by
  intro w hw
  have h1 := List.all_eq_true.mp hg w hw
  rw [h] at hw
  obtain ⟨i, -, hi⟩ := List.mem_filterMap.mp hw
  exact WB_t i hi h1
theorem WB_tbl {w : Cond} (h : w ∈ WB) : w ∈ lw_tbl := (List.mem_filter.mp h).1
theorem WB_good : GoodIn WB WB := fun w h => ⟨h, good_of_word (List.mem_filter.mp h).2⟩
theorem WB_code {y : MethodName} {cc : ByteArray} {n : Nat} {r : Option FieldType} (h : Cond.code y cc n r ∈ WB) : GoodIn WB (.code y cc n r :: WB) := fun w hw => (List.mem_cons.mp hw).elim (fun q => by rw [q]; exact WB_good _ h) (WB_good w)
theorem WB_V {own CN : String} {i : Nat} {y : MethodName} {cc : ByteArray} {n : Nat} {r : Option FieldType} (h1 : Cond.methodLink own i y ∈ WB) (h2 : Cond.instanceMethod y ∈ WB) (h3 : Cond.selects CN y y ∈ WB) (h4 : Cond.initialized CN ∈ WB) (h : Cond.code y cc n r ∈ WB) : GoodIn WB (wsV own i CN y (.code y cc n r :: WB)) := by
  intro w hw
  rcases List.mem_append.mp hw with q | q
  · simp only [List.mem_cons, List.not_mem_nil, or_false] at q
    rcases q with rfl | rfl | rfl | rfl
    · exact WB_good _ h1
    · exact WB_good _ h2
    · exact WB_good _ h3
    · exact WB_good _ h4
  · exact WB_code h w q
theorem WB_S {own : String} {i : Nat} {y : MethodName} {cc : ByteArray} {n : Nat} {r : Option FieldType} (h1 : Cond.methodLink own i y ∈ WB) (h2 : Cond.static y ∈ WB) (h4 : Cond.initialized y.cls ∈ WB) (h : Cond.code y cc n r ∈ WB) : GoodIn WB (va_wsS own i y (.code y cc n r :: WB)) := by
  intro w hw
  rcases List.mem_append.mp hw with q | q
  · simp only [List.mem_cons, List.not_mem_nil, or_false] at q
    rcases q with rfl | rfl | rfl
    · exact WB_good _ h1
    · exact WB_good _ h2
    · exact WB_good _ h4
  · exact WB_code h w q
