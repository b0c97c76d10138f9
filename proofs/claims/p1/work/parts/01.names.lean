/-! ===== BEGIN words of one list among another's, by their places ===== -/
theorem goodIn_r {big : List Cond} (ws : List Cond) (ps : List Nat) (hp : ws = ps.filterMap (fun i => big[i]?)) (h : ws.all goodWord = true) : GoodIn big ws := by
  intro w hw
  have h1 := List.all_eq_true.mp h w hw
  rw [hp] at hw
  obtain ⟨i, -, hi⟩ := List.mem_filterMap.mp hw
  have hm : w ∈ big := by first | exact List.mem_of_getElem? hi | exact List.getElem?_mem hi
  exact ⟨hm, good_of_word h1⟩
theorem goodIn_app {big a b : List Cond} (ha : GoodIn big a) (hb : GoodIn big b) : GoodIn big (a ++ b) := fun w h => (List.mem_append.mp h).elim (ha w) (hb w)
theorem goodIn_ca {big a b : List Cond} {c : Cond} (ha : GoodIn big (c :: a)) (hb : GoodIn big b) : GoodIn big (c :: (a ++ b)) := fun w h => (List.mem_cons.mp h).elim (fun e => ha w (List.mem_cons.mpr (Or.inl e))) (fun h => (List.mem_append.mp h).elim (fun h => ha w (List.mem_cons.mpr (Or.inr h))) (hb w))
theorem goodIn_sub {big ws : List Cond} (hm : ∀ w ∈ ws, w ∈ big) (h : ws.all goodWord = true) : GoodIn big ws := fun w hw => ⟨hm w hw, good_of_word (List.all_eq_true.mp h w hw)⟩
/-! ===== END ===== -/

/-! ===== BEGIN printed: names, fields, word lists, decode rows ===== -/
def RX0 : String := "RoundSearch$ExactSearch"
def TX0 : u_T := fun k => match k with
  | 0 => ("RoundSearch$ExactSearch", "free", "[I", true)
  | 1 => ("RoundSearch$ExactSearch", "count", "I", false)
  | 2 => ("RoundSearch$ExactSearch", "done", "[J", false)
  | 3 => ("RoundSearch$ExactSearch", "start", "I", false)
  | _ => ("RoundSearch$ExactSearch", "startClock", "J", false)
def tyX0 : Nat → FieldType := fun k => match k with
  | 0 => .array .int
  | 1 => .int
  | 2 => .array .long
  | 3 => .int
  | _ => .long
abbrev wsX00 : List Cond := u_ws RX0 TX0 5
theorem nmX0 : ∀ a, a < 5 → ∀ b, b < 5 → a ≠ b → (TX0 a).2.1 ≠ (TX0 b).2.1 := by decide +kernel
theorem tyX0_ok : ∀ k, k < 5 → parseFieldDescriptor (TX0 k).2.2.1 = some (tyX0 k) := by decide +kernel
abbrev cX0_init : ByteArray := prog_2_method_1_code
def yX0_init : MethodName := ⟨RX0, "<init>", "()V"⟩
abbrev cX0_fill : ByteArray := prog_2_method_2_code
def yX0_fill : MethodName := ⟨RX0, "fill", "(LRoundSearch$Net;[II)Z"⟩
abbrev cX0_followFrozen : ByteArray := prog_2_method_3_code
def yX0_followFrozen : MethodName := ⟨RX0, "followFrozen", "(LRoundSearch$Net;[II)V"⟩
abbrev cX0_collectFree : ByteArray := prog_2_method_4_code
def yX0_collectFree : MethodName := ⟨RX0, "collectFree", "(LRoundSearch$Net;[II)V"⟩
abbrev cX0_reckonSets : ByteArray := prog_2_method_5_code
def yX0_reckonSets : MethodName := ⟨RX0, "reckonSets", "(LRoundSearch$Net;)V"⟩
abbrev cX0_has : ByteArray := prog_2_method_6_code
def yX0_has : MethodName := ⟨RX0, "has", "(II)Z"⟩
abbrev cX0_earliest : ByteArray := prog_2_method_7_code
def yX0_earliest : MethodName := ⟨RX0, "earliest", "(LRoundSearch$Net;II)J"⟩
abbrev cX0_readBack : ByteArray := prog_2_method_8_code
def yX0_readBack : MethodName := ⟨RX0, "readBack", "(LRoundSearch$Net;[IIJ)V"⟩
abbrev cX0_leastLast : ByteArray := prog_2_method_9_code
def yX0_leastLast : MethodName := ⟨RX0, "leastLast", "(LRoundSearch$Net;IIJ)I"⟩
abbrev cX0_fits : ByteArray := prog_2_method_10_code
def yX0_fits : MethodName := ⟨RX0, "fits", "(LRoundSearch$Net;IIIJ)Z"⟩
def RX1 : String := "RoundSearch$Net"
def TX1 : u_T := fun k => match k with
  | 0 => ("RoundSearch$Net", "stops", "I", false)
  | 1 => ("RoundSearch$Net", "barredWays", "I", false)
  | 2 => ("RoundSearch$Net", "time", "[J", true)
  | 3 => ("RoundSearch$Net", "from", "[J", true)
  | 4 => ("RoundSearch$Net", "until", "[J", true)
  | 5 => ("RoundSearch$Net", "load", "[I", true)
  | 6 => ("RoundSearch$Net", "way", "[J", true)
  | _ => ("RoundSearch$Net", "barred", "[Z", true)
def tyX1 : Nat → FieldType := fun k => match k with
  | 0 => .int
  | 1 => .int
  | 2 => .array .long
  | 3 => .array .long
  | 4 => .array .long
  | 5 => .array .int
  | 6 => .array .long
  | _ => .array .boolean
abbrev wsX10 : List Cond := u_ws RX1 TX1 8
theorem nmX1 : ∀ a, a < 8 → ∀ b, b < 8 → a ≠ b → (TX1 a).2.1 ≠ (TX1 b).2.1 := by decide +kernel
theorem tyX1_ok : ∀ k, k < 8 → parseFieldDescriptor (TX1 k).2.2.1 = some (tyX1 k) := by decide +kernel
abbrev cX1_init : ByteArray := prog_3_method_1_code
def yX1_init : MethodName := ⟨RX1, "<init>", "()V"⟩
abbrev cX1_between : ByteArray := prog_3_method_2_code
def yX1_between : MethodName := ⟨RX1, "between", "(II)I"⟩
abbrev cX1_holds : ByteArray := prog_3_method_3_code
def yX1_holds : MethodName := ⟨RX1, "holds", "([III)Z"⟩
abbrev cX1_isStop : ByteArray := prog_3_method_4_code
def yX1_isStop : MethodName := ⟨RX1, "isStop", "(I)Z"⟩
abbrev cX1_isPoint : ByteArray := prog_3_method_5_code
def yX1_isPoint : MethodName := ⟨RX1, "isPoint", "(I)Z"⟩
abbrev cX1_append : ByteArray := prog_3_method_6_code
def yX1_append : MethodName := ⟨RX1, "append", "(JJJ)I"⟩
abbrev cX1_tellWay : ByteArray := prog_3_method_7_code
def yX1_tellWay : MethodName := ⟨RX1, "tellWay", "(IIJ)V"⟩
abbrev cX1_tellLoad : ByteArray := prog_3_method_8_code
def yX1_tellLoad : MethodName := ⟨RX1, "tellLoad", "(II)V"⟩
abbrev cX1_loads : ByteArray := prog_3_method_9_code
def yX1_loads : MethodName := ⟨RX1, "loads", "()I"⟩
abbrev cX1_bar : ByteArray := prog_3_method_10_code
def yX1_bar : MethodName := ⟨RX1, "bar", "(IIZ)I"⟩
abbrev cX1_doneAt : ByteArray := prog_3_method_11_code
def yX1_doneAt : MethodName := ⟨RX1, "doneAt", "(IJ)J"⟩
abbrev cX1_goodLeg : ByteArray := prog_3_method_12_code
def yX1_goodLeg : MethodName := ⟨RX1, "goodLeg", "(IJI)J"⟩
abbrev cX1_cost : ByteArray := prog_3_method_13_code
def yX1_cost : MethodName := ⟨RX1, "cost", "([II)J"⟩
abbrev cX1_home : ByteArray := prog_3_method_14_code
def yX1_home : MethodName := ⟨RX1, "home", "([II)J"⟩
abbrev cX1_lateStop : ByteArray := prog_3_method_15_code
def yX1_lateStop : MethodName := ⟨RX1, "lateStop", "([III)I"⟩
abbrev cX1_leastTime : ByteArray := prog_3_method_16_code
def yX1_leastTime : MethodName := ⟨RX1, "leastTime", "()J"⟩
abbrev cX1_leastWayTo : ByteArray := prog_3_method_17_code
def yX1_leastWayTo : MethodName := ⟨RX1, "leastWayTo", "(I)J"⟩
def RX2 : String := "RoundSearch"
def TX2 : u_T := fun k => match k with
  | 0 => ("RoundSearch", "net", "LRoundSearch$Net;", true)
  | 1 => ("RoundSearch", "exactSearch", "LRoundSearch$ExactSearch;", true)
  | 2 => ("RoundSearch", "round", "[I", true)
  | 3 => ("RoundSearch", "length", "I", false)
  | 4 => ("RoundSearch", "frozen", "I", false)
  | 5 => ("RoundSearch", "solvedExactly", "Z", false)
  | _ => ("RoundSearch", "most", "I", false)
def tyX2 : Nat → FieldType := fun k => match k with
  | 0 => .object "RoundSearch$Net"
  | 1 => .object "RoundSearch$ExactSearch"
  | 2 => .array .int
  | 3 => .int
  | 4 => .int
  | 5 => .boolean
  | _ => .int
abbrev wsX20 : List Cond := u_ws RX2 TX2 7
theorem nmX2 : ∀ a, a < 7 → ∀ b, b < 7 → a ≠ b → (TX2 a).2.1 ≠ (TX2 b).2.1 := by decide +kernel
theorem tyX2_ok : ∀ k, k < 7 → parseFieldDescriptor (TX2 k).2.2.1 = some (tyX2 k) := by decide +kernel
abbrev cX2_init : ByteArray := prog_1_method_1_code
def yX2_init : MethodName := ⟨RX2, "<init>", "()V"⟩
abbrev cX2_stop : ByteArray := prog_1_method_2_code
def yX2_stop : MethodName := ⟨RX2, "stop", "(JJJ)I"⟩
abbrev cX2_way : ByteArray := prog_1_method_3_code
def yX2_way : MethodName := ⟨RX2, "way", "(IIJ)V"⟩
abbrev cX2_load : ByteArray := prog_1_method_4_code
def yX2_load : MethodName := ⟨RX2, "load", "(II)I"⟩
abbrev cX2_limit : ByteArray := prog_1_method_5_code
def yX2_limit : MethodName := ⟨RX2, "limit", "(I)I"⟩
abbrev cX2_solve : ByteArray := prog_1_method_6_code
def yX2_solve : MethodName := ⟨RX2, "solve", "(J)J"⟩
abbrev cX2_at : ByteArray := prog_1_method_7_code
def yX2_at : MethodName := ⟨RX2, "at", "(I)I"⟩
abbrev cX2_exact : ByteArray := prog_1_method_8_code
def yX2_exact : MethodName := ⟨RX2, "exact", "()Z"⟩
abbrev cX2_late : ByteArray := prog_1_method_9_code
def yX2_late : MethodName := ⟨RX2, "late", "(I)I"⟩
abbrev cX2_freeze : ByteArray := prog_1_method_10_code
def yX2_freeze : MethodName := ⟨RX2, "freeze", "(I)I"⟩
abbrev cX2_add : ByteArray := prog_1_method_11_code
def yX2_add : MethodName := ⟨RX2, "add", "(I)I"⟩
abbrev cX2_arc : ByteArray := prog_1_method_12_code
def yX2_arc : MethodName := ⟨RX2, "arc", "(III)I"⟩
abbrev cX2_exchange : ByteArray := prog_1_method_13_code
def yX2_exchange : MethodName := ⟨RX2, "exchange", "(II)I"⟩
abbrev cX2_bound : ByteArray := prog_1_method_14_code
def yX2_bound : MethodName := ⟨RX2, "bound", "()J"⟩
abbrev cX2_isSeconds : ByteArray := prog_1_method_15_code
def yX2_isSeconds : MethodName := ⟨RX2, "isSeconds", "(J)Z"⟩
abbrev cX2_isPlace : ByteArray := prog_1_method_16_code
def yX2_isPlace : MethodName := ⟨RX2, "isPlace", "(I)Z"⟩
abbrev cX2_placeOf : ByteArray := prog_1_method_17_code
def yX2_placeOf : MethodName := ⟨RX2, "placeOf", "(I)I"⟩
abbrev cX2_insertFreeStops : ByteArray := prog_1_method_18_code
def yX2_insertFreeStops : MethodName := ⟨RX2, "insertFreeStops", "()V"⟩
abbrev cX2_insert : ByteArray := prog_1_method_19_code
def yX2_insert : MethodName := ⟨RX2, "insert", "(II)I"⟩
abbrev cX2_improve : ByteArray := prog_1_method_20_code
def yX2_improve : MethodName := ⟨RX2, "improve", "(J)V"⟩
abbrev cX2_swapIfLess : ByteArray := prog_1_method_21_code
def yX2_swapIfLess : MethodName := ⟨RX2, "swapIfLess", "(IIJ)Z"⟩
abbrev cX2_swap : ByteArray := prog_1_method_22_code
def yX2_swap : MethodName := ⟨RX2, "swap", "(II)V"⟩
def RX3 : String := "RoundSearchModel"
def TX3 : u_T := fun k => match k with
  | 0 => ("RoundSearchModel", "thrown", "I", false)
  | 1 => ("RoundSearchModel", "stops", "I", false)
  | 2 => ("RoundSearchModel", "takes", "[J", true)
  | 3 => ("RoundSearchModel", "opens", "[J", true)
  | 4 => ("RoundSearchModel", "shuts", "[J", true)
  | 5 => ("RoundSearchModel", "loads", "[I", true)
  | 6 => ("RoundSearchModel", "limit", "I", false)
  | 7 => ("RoundSearchModel", "ways", "[J", true)
  | 8 => ("RoundSearchModel", "barred", "[Z", true)
  | 9 => ("RoundSearchModel", "isRound", "Z", false)
  | 10 => ("RoundSearchModel", "size", "I", false)
  | 11 => ("RoundSearchModel", "round", "[I", true)
  | 12 => ("RoundSearchModel", "frozen", "I", false)
  | 13 => ("RoundSearchModel", "ice", "[I", true)
  | 14 => ("RoundSearchModel", "exact", "Z", false)
  | 15 => ("RoundSearchModel", "frees", "I", false)
  | 16 => ("RoundSearchModel", "free", "[I", true)
  | 17 => ("RoundSearchModel", "early", "[J", true)
  | 18 => ("RoundSearchModel", "rowSize", "I", false)
  | _ => ("RoundSearchModel", "row", "[I", true)
def tyX3 : Nat → FieldType := fun k => match k with
  | 0 => .int
  | 1 => .int
  | 2 => .array .long
  | 3 => .array .long
  | 4 => .array .long
  | 5 => .array .int
  | 6 => .int
  | 7 => .array .long
  | 8 => .array .boolean
  | 9 => .boolean
  | 10 => .int
  | 11 => .array .int
  | 12 => .int
  | 13 => .array .int
  | 14 => .boolean
  | 15 => .int
  | 16 => .array .int
  | 17 => .array .long
  | 18 => .int
  | _ => .array .int
abbrev wsX30 : List Cond := u_ws RX3 TX3 20
theorem nmX3 : ∀ a, a < 20 → ∀ b, b < 20 → a ≠ b → (TX3 a).2.1 ≠ (TX3 b).2.1 := by decide +kernel
theorem tyX3_ok : ∀ k, k < 20 → parseFieldDescriptor (TX3 k).2.2.1 = some (tyX3 k) := by decide +kernel
abbrev cX3_init : ByteArray := prog_5_method_1_code
def yX3_init : MethodName := ⟨RX3, "<init>", "()V"⟩
abbrev cX3_thrown : ByteArray := prog_5_method_2_code
def yX3_thrown : MethodName := ⟨RX3, "thrown", "()I"⟩
abbrev cX3_isStop : ByteArray := prog_5_method_3_code
def yX3_isStop : MethodName := ⟨RX3, "isStop", "(I)Z"⟩
abbrev cX3_isPlace : ByteArray := prog_5_method_4_code
def yX3_isPlace : MethodName := ⟨RX3, "isPlace", "(I)Z"⟩
abbrev cX3_stop : ByteArray := prog_5_method_5_code
def yX3_stop : MethodName := ⟨RX3, "stop", "(JJJ)I"⟩
abbrev cX3_way : ByteArray := prog_5_method_6_code
def yX3_way : MethodName := ⟨RX3, "way", "(IIJ)V"⟩
abbrev cX3_allLoads : ByteArray := prog_5_method_7_code
def yX3_allLoads : MethodName := ⟨RX3, "allLoads", "()I"⟩
abbrev cX3_load : ByteArray := prog_5_method_8_code
def yX3_load : MethodName := ⟨RX3, "load", "(II)I"⟩
abbrev cX3_limit : ByteArray := prog_5_method_9_code
def yX3_limit : MethodName := ⟨RX3, "limit", "(I)I"⟩
abbrev cX3_measure : ByteArray := prog_5_method_10_code
def yX3_measure : MethodName := ⟨RX3, "measure", "()J"⟩
abbrev cX3_isFrozen : ByteArray := prog_5_method_11_code
def yX3_isFrozen : MethodName := ⟨RX3, "isFrozen", "(I)Z"⟩
abbrev cX3_wellDone : ByteArray := prog_5_method_12_code
def yX3_wellDone : MethodName := ⟨RX3, "wellDone", "(IIJ)J"⟩
abbrev cX3_wellHome : ByteArray := prog_5_method_13_code
def yX3_wellHome : MethodName := ⟨RX3, "wellHome", "(IJ)J"⟩
abbrev cX3_spread : ByteArray := prog_5_method_14_code
def yX3_spread : MethodName := ⟨RX3, "spread", "()V"⟩
abbrev cX3_findExact : ByteArray := prog_5_method_15_code
def yX3_findExact : MethodName := ⟨RX3, "findExact", "()Z"⟩
abbrev cX3_putIn : ByteArray := prog_5_method_16_code
def yX3_putIn : MethodName := ⟨RX3, "putIn", "(II)V"⟩
abbrev cX3_takeOut : ByteArray := prog_5_method_17_code
def yX3_takeOut : MethodName := ⟨RX3, "takeOut", "(I)V"⟩
abbrev cX3_insert : ByteArray := prog_5_method_18_code
def yX3_insert : MethodName := ⟨RX3, "insert", "(I)I"⟩
abbrev cX3_turn : ByteArray := prog_5_method_19_code
def yX3_turn : MethodName := ⟨RX3, "turn", "(II)V"⟩
abbrev cX3_better : ByteArray := prog_5_method_20_code
def yX3_better : MethodName := ⟨RX3, "better", "(II)Z"⟩
abbrev cX3_improve : ByteArray := prog_5_method_21_code
def yX3_improve : MethodName := ⟨RX3, "improve", "(J)V"⟩
abbrev cX3_keep : ByteArray := prog_5_method_22_code
def yX3_keep : MethodName := ⟨RX3, "keep", "()V"⟩
abbrev cX3_solve : ByteArray := prog_5_method_23_code
def yX3_solve : MethodName := ⟨RX3, "solve", "(J)J"⟩
abbrev cX3_fetch : ByteArray := prog_5_method_24_code
def yX3_fetch : MethodName := ⟨RX3, "fetch", "()V"⟩
abbrev cX3_at : ByteArray := prog_5_method_25_code
def yX3_at : MethodName := ⟨RX3, "at", "(I)I"⟩
abbrev cX3_exact : ByteArray := prog_5_method_26_code
def yX3_exact : MethodName := ⟨RX3, "exact", "()Z"⟩
abbrev cX3_late : ByteArray := prog_5_method_27_code
def yX3_late : MethodName := ⟨RX3, "late", "(I)I"⟩
abbrev cX3_freeze : ByteArray := prog_5_method_28_code
def yX3_freeze : MethodName := ⟨RX3, "freeze", "(I)I"⟩
abbrev cX3_add : ByteArray := prog_5_method_29_code
def yX3_add : MethodName := ⟨RX3, "add", "(I)I"⟩
abbrev cX3_arc : ByteArray := prog_5_method_30_code
def yX3_arc : MethodName := ⟨RX3, "arc", "(III)I"⟩
abbrev cX3_exchange : ByteArray := prog_5_method_31_code
def yX3_exchange : MethodName := ⟨RX3, "exchange", "(II)I"⟩
abbrev cX3_bound : ByteArray := prog_5_method_32_code
def yX3_bound : MethodName := ⟨RX3, "bound", "()J"⟩
def RJx00060 : String := "java/lang/ArrayIndexOutOfBoundsException"
def TJx00060 : u_T := fun k => match k with
  | 0 => ("java/lang/Throwable", "cause", "Ljava/lang/Throwable;", false)
  | 1 => ("java/lang/Throwable", "stackTrace", "[Ljava/lang/StackTraceElement;", false)
  | 2 => ("java/lang/Throwable", "suppressedExceptions", "Ljava/util/List;", false)
  | 3 => ("java/lang/Throwable", "detailMessage", "Ljava/lang/String;", false)
  | 4 => ("java/lang/Throwable", "backtrace", "Ljava/lang/Object;", false)
  | _ => ("java/lang/Throwable", "depth", "I", false)
def tyJx00060 : Nat → FieldType := fun k => match k with
  | 0 => .object "java/lang/Throwable"
  | 1 => .array (.object "java/lang/StackTraceElement")
  | 2 => .object "java/util/List"
  | 3 => .object "java/lang/String"
  | 4 => .object "java/lang/Object"
  | _ => .int
abbrev wsJx000600 : List Cond := u_ws RJx00060 TJx00060 6
theorem nmJx00060 : ∀ a, a < 6 → ∀ b, b < 6 → a ≠ b → (TJx00060 a).2.1 ≠ (TJx00060 b).2.1 := by decide +kernel
theorem tyJx00060_ok : ∀ k, k < 6 → parseFieldDescriptor (TJx00060 k).2.2.1 = some (tyJx00060 k) := by decide +kernel
abbrev cJx00060_init_a7421 : ByteArray := prog_6_method_2_code
def yJx00060_init_a7421 : MethodName := ⟨RJx00060, "<init>", "(Ljava/lang/String;)V"⟩
def RJ9 : String := "java/lang/Math"
def TJ9 : u_T := fun k => match k with
  | _ => ("", "", "", false)
def tyJ9 : Nat → FieldType := fun k => match k with
  | _ => .int
abbrev wsJ90 : List Cond := u_ws RJ9 TJ9 0
theorem nmJ9 : ∀ a, a < 0 → ∀ b, b < 0 → a ≠ b → (TJ9 a).2.1 ≠ (TJ9 b).2.1 := by decide +kernel
theorem tyJ9_ok : ∀ k, k < 0 → parseFieldDescriptor (TJ9 k).2.2.1 = some (tyJ9 k) := by decide +kernel
abbrev cJ9_max_f86c9 : ByteArray := prog_9_method_66_code
def yJ9_max_f86c9 : MethodName := ⟨RJ9, "max", "(JJ)J"⟩
abbrev cJ9_min_f86c9 : ByteArray := prog_9_method_70_code
def yJ9_min_f86c9 : MethodName := ⟨RJ9, "min", "(JJ)J"⟩
def RJ0 : String := "java/lang/String"
def TJ0 : u_T := fun k => match k with
  | _ => ("", "", "", false)
def tyJ0 : Nat → FieldType := fun k => match k with
  | _ => .int
abbrev wsJ00 : List Cond := u_ws RJ0 TJ0 0
theorem nmJ0 : ∀ a, a < 0 → ∀ b, b < 0 → a ≠ b → (TJ0 a).2.1 ≠ (TJ0 b).2.1 := by decide +kernel
theorem tyJ0_ok : ∀ k, k < 0 → parseFieldDescriptor (TJ0 k).2.2.1 = some (tyJ0 k) := by decide +kernel
def RL : String := "RoundSearchLaw"
abbrev cL_at : ByteArray := method_3_code
def yL_at : MethodName := ⟨RL, "at", "(LRoundSearch;I[J)I"⟩
abbrev cL_law : ByteArray := code
def yL_law : MethodName := ⟨RL, "law", "([I)Z"⟩
abbrev vwCl : List vw_C := [(RJx00060, TJx00060, 6), (RX0, TX0, 5), (RX1, TX1, 8), (RX2, TX2, 7), (RX3, TX3, 20)]
