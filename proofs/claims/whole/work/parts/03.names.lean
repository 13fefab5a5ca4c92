/-! names: classes, fields, methods, words of the tables, by program out of the claim (own program wip/gen/mknames.py) -/
def allW : List Cond := lw_tbl.filter goodWord
theorem aw {w : Cond} (k : Nat) (h : lw_tbl[k]? = some w) (g : goodWord w = true) : w ∈ allW := List.mem_filter.mpr ⟨List.mem_of_getElem? h, g⟩
abbrev RX0 : String := "ShareStatistics$Definitions"
def TX0 : u_T := fun k => match k with
  | 0 => ("ShareStatistics$Definitions", "days", "[I", true)
  | 1 => ("ShareStatistics$Definitions", "limits", "[I", true)
  | _ => ("ShareStatistics$Definitions", "size", "I", false)
def tyX0 : Nat → FieldType := fun k => match k with
  | 0 => .array .int
  | 1 => .array .int
  | _ => .int
theorem nmX0 : ∀ a, a < 3 → ∀ b, b < 3 → a ≠ b → (TX0 a).2.1 ≠ (TX0 b).2.1 := by decide +kernel
theorem tyX0_ok : ∀ k, k < 3 → parseFieldDescriptor (TX0 k).2.2.1 = some (tyX0 k) := by decide +kernel
theorem iw_X0 : ∀ w ∈ u_ws RX0 TX0 3, w ∈ allW := by
  intro w hw
  refine List.mem_filter.mpr ⟨?_, ?_⟩
  · revert w; decide +kernel
  · revert w; decide +kernel
abbrev RX1 : String := "ShareStatistics$Incidents"
def TX1 : u_T := fun k => match k with
  | 0 => ("ShareStatistics$Incidents", "days", "[I", true)
  | 1 => ("ShareStatistics$Incidents", "hours", "[I", true)
  | 2 => ("ShareStatistics$Incidents", "kinds", "[I", true)
  | 3 => ("ShareStatistics$Incidents", "areas", "[I", true)
  | 4 => ("ShareStatistics$Incidents", "stations", "[I", true)
  | 5 => ("ShareStatistics$Incidents", "marks", "[I", true)
  | 6 => ("ShareStatistics$Incidents", "turnOuts", "[I", true)
  | 7 => ("ShareStatistics$Incidents", "travels", "[I", true)
  | 8 => ("ShareStatistics$Incidents", "sortedSums", "[I", true)
  | _ => ("ShareStatistics$Incidents", "size", "I", false)
def tyX1 : Nat → FieldType := fun k => match k with
  | 0 => .array .int
  | 1 => .array .int
  | 2 => .array .int
  | 3 => .array .int
  | 4 => .array .int
  | 5 => .array .int
  | 6 => .array .int
  | 7 => .array .int
  | 8 => .array .int
  | _ => .int
theorem nmX1 : ∀ a, a < 10 → ∀ b, b < 10 → a ≠ b → (TX1 a).2.1 ≠ (TX1 b).2.1 := by decide +kernel
theorem tyX1_ok : ∀ k, k < 10 → parseFieldDescriptor (TX1 k).2.2.1 = some (tyX1 k) := by decide +kernel
theorem iw_X1 : ∀ w ∈ u_ws RX1 TX1 10, w ∈ allW := by
  intro w hw
  refine List.mem_filter.mpr ⟨?_, ?_⟩
  · revert w; decide +kernel
  · revert w; decide +kernel
abbrev RX2 : String := "ShareStatistics$Secrecy"
def TX2 : u_T := fun k => match k with
  | 0 => ("ShareStatistics$Secrecy", "rowsOfArea", "[I", true)
  | 1 => ("ShareStatistics$Secrecy", "isJoined", "[Z", true)
  | 2 => ("ShareStatistics$Secrecy", "lowestShown", "I", false)
  | _ => ("ShareStatistics$Secrecy", "together", "I", false)
def tyX2 : Nat → FieldType := fun k => match k with
  | 0 => .array .int
  | 1 => .array .boolean
  | 2 => .int
  | _ => .int
theorem nmX2 : ∀ a, a < 4 → ∀ b, b < 4 → a ≠ b → (TX2 a).2.1 ≠ (TX2 b).2.1 := by decide +kernel
theorem tyX2_ok : ∀ k, k < 4 → parseFieldDescriptor (TX2 k).2.2.1 = some (tyX2 k) := by decide +kernel
theorem iw_X2 : ∀ w ∈ u_ws RX2 TX2 4, w ∈ allW := by
  intro w hw
  refine List.mem_filter.mpr ⟨?_, ?_⟩
  · revert w; decide +kernel
  · revert w; decide +kernel
abbrev RX3 : String := "ShareStatistics$Trend"
def TX3 : u_T := fun k => match k with
  | 0 => ("ShareStatistics$Trend", "counts", "[I", true)
  | _ => ("ShareStatistics$Trend", "periods", "I", false)
def tyX3 : Nat → FieldType := fun k => match k with
  | 0 => .array .int
  | _ => .int
theorem nmX3 : ∀ a, a < 2 → ∀ b, b < 2 → a ≠ b → (TX3 a).2.1 ≠ (TX3 b).2.1 := by decide +kernel
theorem tyX3_ok : ∀ k, k < 2 → parseFieldDescriptor (TX3 k).2.2.1 = some (tyX3 k) := by decide +kernel
theorem iw_X3 : ∀ w ∈ u_ws RX3 TX3 2, w ∈ allW := by
  intro w hw
  refine List.mem_filter.mpr ⟨?_, ?_⟩
  · revert w; decide +kernel
  · revert w; decide +kernel
abbrev RX4 : String := "ShareStatistics"
def TX4 : u_T := fun k => match k with
  | 0 => ("ShareStatistics", "definitions", "LShareStatistics$Definitions;", true)
  | 1 => ("ShareStatistics", "incidents", "LShareStatistics$Incidents;", true)
  | 2 => ("ShareStatistics", "trendCounts", "LShareStatistics$Trend;", true)
  | 3 => ("ShareStatistics", "secrecy", "LShareStatistics$Secrecy;", true)
  | 4 => ("ShareStatistics", "peopleOfArea", "[I", true)
  | 5 => ("ShareStatistics", "askedFrom", "I", false)
  | 6 => ("ShareStatistics", "askedTo", "I", false)
  | 7 => ("ShareStatistics", "askedKind", "I", false)
  | _ => ("ShareStatistics", "askedArea", "I", false)
def tyX4 : Nat → FieldType := fun k => match k with
  | 0 => .object "ShareStatistics$Definitions"
  | 1 => .object "ShareStatistics$Incidents"
  | 2 => .object "ShareStatistics$Trend"
  | 3 => .object "ShareStatistics$Secrecy"
  | 4 => .array .int
  | 5 => .int
  | 6 => .int
  | 7 => .int
  | _ => .int
theorem nmX4 : ∀ a, a < 9 → ∀ b, b < 9 → a ≠ b → (TX4 a).2.1 ≠ (TX4 b).2.1 := by decide +kernel
theorem tyX4_ok : ∀ k, k < 9 → parseFieldDescriptor (TX4 k).2.2.1 = some (tyX4 k) := by decide +kernel
theorem iw_X4 : ∀ w ∈ u_ws RX4 TX4 9, w ∈ allW := by
  intro w hw
  refine List.mem_filter.mpr ⟨?_, ?_⟩
  · revert w; decide +kernel
  · revert w; decide +kernel
abbrev RX5 : String := "ShareStatisticsModel"
def TX5 : u_T := fun k => match k with
  | 0 => ("ShareStatisticsModel", "thrown", "I", false)
  | 1 => ("ShareStatisticsModel", "rows", "I", false)
  | 2 => ("ShareStatisticsModel", "day", "[I", true)
  | 3 => ("ShareStatisticsModel", "hour", "[I", true)
  | 4 => ("ShareStatisticsModel", "kind", "[I", true)
  | 5 => ("ShareStatisticsModel", "area", "[I", true)
  | 6 => ("ShareStatisticsModel", "station", "[I", true)
  | 7 => ("ShareStatisticsModel", "wrong", "[Z", true)
  | 8 => ("ShareStatisticsModel", "hidden", "[Z", true)
  | 9 => ("ShareStatisticsModel", "turnOut", "[I", true)
  | 10 => ("ShareStatisticsModel", "travel", "[I", true)
  | 11 => ("ShareStatisticsModel", "definitions", "I", false)
  | 12 => ("ShareStatisticsModel", "since", "[I", true)
  | 13 => ("ShareStatisticsModel", "mark", "[I", true)
  | 14 => ("ShareStatisticsModel", "from", "I", false)
  | 15 => ("ShareStatisticsModel", "to", "I", false)
  | 16 => ("ShareStatisticsModel", "askedKind", "I", false)
  | 17 => ("ShareStatisticsModel", "askedArea", "I", false)
  | 18 => ("ShareStatisticsModel", "people", "[I", true)
  | 19 => ("ShareStatisticsModel", "least", "I", false)
  | 20 => ("ShareStatisticsModel", "counts", "[I", true)
  | 21 => ("ShareStatisticsModel", "table", "[I", true)
  | 22 => ("ShareStatisticsModel", "sums", "[I", true)
  | _ => ("ShareStatisticsModel", "isJoined", "[Z", true)
def tyX5 : Nat → FieldType := fun k => match k with
  | 0 => .int
  | 1 => .int
  | 2 => .array .int
  | 3 => .array .int
  | 4 => .array .int
  | 5 => .array .int
  | 6 => .array .int
  | 7 => .array .boolean
  | 8 => .array .boolean
  | 9 => .array .int
  | 10 => .array .int
  | 11 => .int
  | 12 => .array .int
  | 13 => .array .int
  | 14 => .int
  | 15 => .int
  | 16 => .int
  | 17 => .int
  | 18 => .array .int
  | 19 => .int
  | 20 => .array .int
  | 21 => .array .int
  | 22 => .array .int
  | _ => .array .boolean
theorem nmX5 : ∀ a, a < 24 → ∀ b, b < 24 → a ≠ b → (TX5 a).2.1 ≠ (TX5 b).2.1 := by decide +kernel
theorem tyX5_ok : ∀ k, k < 24 → parseFieldDescriptor (TX5 k).2.2.1 = some (tyX5 k) := by decide +kernel
theorem iw_X5 : ∀ w ∈ u_ws RX5 TX5 24, w ∈ allW := by
  intro w hw
  refine List.mem_filter.mpr ⟨?_, ?_⟩
  · revert w; decide +kernel
  · revert w; decide +kernel
abbrev RL : String := "ShareStatisticsLaw"
abbrev clA : List vw_C := [(RX0, TX0, 3), (RX1, TX1, 10), (RX2, TX2, 4), (RX3, TX3, 2), (RX4, TX4, 9), (RX5, TX5, 24)]
abbrev cX4_init : ByteArray := prog_1_method_1_code
abbrev yX4_init : MethodName := ⟨RX4, "<init>", "()V"⟩
abbrev wsX4_init : List Cond := .code yX4_init cX4_init 1 none :: allW
theorem kX4_init : (.code yX4_init cX4_init 1 none : Cond) ∈ allW := aw 51 (by decide +kernel) (by decide +kernel)
abbrev cX4_row : ByteArray := prog_1_method_2_code
abbrev yX4_row : MethodName := ⟨RX4, "row", "(IIIIII)I"⟩
abbrev wsX4_row : List Cond := .code yX4_row cX4_row 7 (some .int) :: allW
theorem kX4_row : (.code yX4_row cX4_row 7 (some .int) : Cond) ∈ allW := aw 235 (by decide +kernel) (by decide +kernel)
abbrev cX4_values : ByteArray := prog_1_method_3_code
abbrev yX4_values : MethodName := ⟨RX4, "values", "(III)V"⟩
abbrev wsX4_values : List Cond := .code yX4_values cX4_values 4 none :: allW
theorem kX4_values : (.code yX4_values cX4_values 4 none : Cond) ∈ allW := aw 358 (by decide +kernel) (by decide +kernel)
abbrev cX4_define : ByteArray := prog_1_method_4_code
abbrev yX4_define : MethodName := ⟨RX4, "define", "(II)I"⟩
abbrev wsX4_define : List Cond := .code yX4_define cX4_define 3 (some .int) :: allW
theorem kX4_define : (.code yX4_define cX4_define 3 (some .int) : Cond) ∈ allW := aw 373 (by decide +kernel) (by decide +kernel)
abbrev cX4_ask : ByteArray := prog_1_method_5_code
abbrev yX4_ask : MethodName := ⟨RX4, "ask", "(IIII)V"⟩
abbrev wsX4_ask : List Cond := .code yX4_ask cX4_ask 5 none :: allW
theorem kX4_ask : (.code yX4_ask cX4_ask 5 none : Cond) ∈ allW := aw 390 (by decide +kernel) (by decide +kernel)
abbrev cX4_count : ByteArray := prog_1_method_6_code
abbrev yX4_count : MethodName := ⟨RX4, "count", "(I)I"⟩
abbrev wsX4_count : List Cond := .code yX4_count cX4_count 2 (some .int) :: allW
theorem kX4_count : (.code yX4_count cX4_count 2 (some .int) : Cond) ∈ allW := aw 400 (by decide +kernel) (by decide +kernel)
abbrev cX4_hour : ByteArray := prog_1_method_7_code
abbrev yX4_hour : MethodName := ⟨RX4, "hour", "(I)I"⟩
abbrev wsX4_hour : List Cond := .code yX4_hour cX4_hour 2 (some .int) :: allW
theorem kX4_hour : (.code yX4_hour cX4_hour 2 (some .int) : Cond) ∈ allW := aw 435 (by decide +kernel) (by decide +kernel)
abbrev cX4_share : ByteArray := prog_1_method_8_code
abbrev yX4_share : MethodName := ⟨RX4, "share", "(I)I"⟩
abbrev wsX4_share : List Cond := .code yX4_share cX4_share 4 (some .int) :: allW
theorem kX4_share : (.code yX4_share cX4_share 4 (some .int) : Cond) ∈ allW := aw 447 (by decide +kernel) (by decide +kernel)
abbrev cX4_placed : ByteArray := prog_1_method_9_code
abbrev yX4_placed : MethodName := ⟨RX4, "placed", "(I)I"⟩
abbrev wsX4_placed : List Cond := .code yX4_placed cX4_placed 2 (some .int) :: allW
theorem kX4_placed : (.code yX4_placed cX4_placed 2 (some .int) : Cond) ∈ allW := aw 487 (by decide +kernel) (by decide +kernel)
abbrev cX4_splits : ByteArray := prog_1_method_10_code
abbrev yX4_splits : MethodName := ⟨RX4, "splits", "()I"⟩
abbrev wsX4_splits : List Cond := .code yX4_splits cX4_splits 1 (some .int) :: allW
theorem kX4_splits : (.code yX4_splits cX4_splits 1 (some .int) : Cond) ∈ allW := aw 173 (by decide +kernel) (by decide +kernel)
abbrev cX4_compare : ByteArray := prog_1_method_11_code
abbrev yX4_compare : MethodName := ⟨RX4, "compare", "(II)I"⟩
abbrev wsX4_compare : List Cond := .code yX4_compare cX4_compare 5 (some .int) :: allW
theorem kX4_compare : (.code yX4_compare cX4_compare 5 (some .int) : Cond) ∈ allW := aw 502 (by decide +kernel) (by decide +kernel)
abbrev cX4_trend : ByteArray := prog_1_method_12_code
abbrev yX4_trend : MethodName := ⟨RX4, "trend", "(IIII)I"⟩
abbrev wsX4_trend : List Cond := .code yX4_trend cX4_trend 7 (some .int) :: allW
theorem kX4_trend : (.code yX4_trend cX4_trend 7 (some .int) : Cond) ∈ allW := aw 512 (by decide +kernel) (by decide +kernel)
abbrev cX4_people : ByteArray := prog_1_method_13_code
abbrev yX4_people : MethodName := ⟨RX4, "people", "(II)V"⟩
abbrev wsX4_people : List Cond := .code yX4_people cX4_people 3 none :: allW
theorem kX4_people : (.code yX4_people cX4_people 3 none : Cond) ∈ allW := aw 553 (by decide +kernel) (by decide +kernel)
abbrev cX4_perThousand : ByteArray := prog_1_method_14_code
abbrev yX4_perThousand : MethodName := ⟨RX4, "perThousand", "(I)I"⟩
abbrev wsX4_perThousand : List Cond := .code yX4_perThousand cX4_perThousand 3 (some .int) :: allW
theorem kX4_perThousand : (.code yX4_perThousand cX4_perThousand 3 (some .int) : Cond) ∈ allW := aw 561 (by decide +kernel) (by decide +kernel)
abbrev cX4_rank : ByteArray := prog_1_method_15_code
abbrev yX4_rank : MethodName := ⟨RX4, "rank", "(I)I"⟩
abbrev wsX4_rank : List Cond := .code yX4_rank cX4_rank 5 (some .int) :: allW
theorem kX4_rank : (.code yX4_rank cX4_rank 5 (some .int) : Cond) ∈ allW := aw 573 (by decide +kernel) (by decide +kernel)
abbrev cX4_least : ByteArray := prog_1_method_16_code
abbrev yX4_least : MethodName := ⟨RX4, "least", "(I)V"⟩
abbrev wsX4_least : List Cond := .code yX4_least cX4_least 2 none :: allW
theorem kX4_least : (.code yX4_least cX4_least 2 none : Cond) ∈ allW := aw 580 (by decide +kernel) (by decide +kernel)
abbrev cX4_shown : ByteArray := prog_1_method_17_code
abbrev yX4_shown : MethodName := ⟨RX4, "shown", "(I)I"⟩
abbrev wsX4_shown : List Cond := .code yX4_shown cX4_shown 2 (some .int) :: allW
theorem kX4_shown : (.code yX4_shown cX4_shown 2 (some .int) : Cond) ∈ allW := aw 591 (by decide +kernel) (by decide +kernel)
abbrev cX4_joined : ByteArray := prog_1_method_18_code
abbrev yX4_joined : MethodName := ⟨RX4, "joined", "()I"⟩
abbrev wsX4_joined : List Cond := .code yX4_joined cX4_joined 1 (some .int) :: allW
theorem kX4_joined : (.code yX4_joined cX4_joined 1 (some .int) : Cond) ∈ allW := aw 189 (by decide +kernel) (by decide +kernel)
abbrev cX4_work : ByteArray := prog_1_method_19_code
abbrev yX4_work : MethodName := ⟨RX4, "work", "(II)I"⟩
abbrev wsX4_work : List Cond := .code yX4_work cX4_work 3 (some .int) :: allW
theorem kX4_work : (.code yX4_work cX4_work 3 (some .int) : Cond) ∈ allW := aw 602 (by decide +kernel) (by decide +kernel)
abbrev cX4_askedTotal : ByteArray := prog_1_method_20_code
abbrev yX4_askedTotal : MethodName := ⟨RX4, "askedTotal", "(III)I"⟩
abbrev wsX4_askedTotal : List Cond := .code yX4_askedTotal cX4_askedTotal 4 (some .int) :: allW
theorem kX4_askedTotal : (.code yX4_askedTotal cX4_askedTotal 4 (some .int) : Cond) ∈ allW := aw 404 (by decide +kernel) (by decide +kernel)
abbrev cX4_rowsWithin : ByteArray := prog_1_method_21_code
abbrev yX4_rowsWithin : MethodName := ⟨RX4, "rowsWithin", "(II)I"⟩
abbrev wsX4_rowsWithin : List Cond := .code yX4_rowsWithin cX4_rowsWithin 3 (some .int) :: allW
theorem kX4_rowsWithin : (.code yX4_rowsWithin cX4_rowsWithin 3 (some .int) : Cond) ∈ allW := aw 451 (by decide +kernel) (by decide +kernel)
abbrev cX4_rowsNotWithout : ByteArray := prog_1_method_22_code
abbrev yX4_rowsNotWithout : MethodName := ⟨RX4, "rowsNotWithout", "(II)I"⟩
abbrev wsX4_rowsNotWithout : List Cond := .code yX4_rowsNotWithout cX4_rowsNotWithout 3 (some .int) :: allW
theorem kX4_rowsNotWithout : (.code yX4_rowsNotWithout cX4_rowsNotWithout 3 (some .int) : Cond) ∈ allW := aw 455 (by decide +kernel) (by decide +kernel)
abbrev cX4_rowsOfArea : ByteArray := prog_1_method_23_code
abbrev yX4_rowsOfArea : MethodName := ⟨RX4, "rowsOfArea", "(I)I"⟩
abbrev wsX4_rowsOfArea : List Cond := .code yX4_rowsOfArea cX4_rowsOfArea 2 (some .int) :: allW
theorem kX4_rowsOfArea : (.code yX4_rowsOfArea cX4_rowsOfArea 2 (some .int) : Cond) ∈ allW := aw 566 (by decide +kernel) (by decide +kernel)
abbrev cX4_refuseUnknown : ByteArray := prog_1_method_24_code
abbrev yX4_refuseUnknown : MethodName := ⟨RX4, "refuseUnknown", "(II)V"⟩
abbrev wsX4_refuseUnknown : List Cond := .code yX4_refuseUnknown cX4_refuseUnknown 2 none :: allW
theorem kX4_refuseUnknown : (.code yX4_refuseUnknown cX4_refuseUnknown 2 none : Cond) ∈ allW := aw 238 (by decide +kernel) (by decide +kernel)
abbrev cX4_refuseOutside : ByteArray := prog_1_method_25_code
abbrev yX4_refuseOutside : MethodName := ⟨RX4, "refuseOutside", "(III)V"⟩
abbrev wsX4_refuseOutside : List Cond := .code yX4_refuseOutside cX4_refuseOutside 3 none :: allW
theorem kX4_refuseOutside : (.code yX4_refuseOutside cX4_refuseOutside 3 none : Cond) ∈ allW := aw 310 (by decide +kernel) (by decide +kernel)
abbrev cX4_refuseNoSpan : ByteArray := prog_1_method_26_code
abbrev yX4_refuseNoSpan : MethodName := ⟨RX4, "refuseNoSpan", "(II)V"⟩
abbrev wsX4_refuseNoSpan : List Cond := .code yX4_refuseNoSpan cX4_refuseNoSpan 2 none :: allW
theorem kX4_refuseNoSpan : (.code yX4_refuseNoSpan cX4_refuseNoSpan 2 none : Cond) ∈ allW := aw 393 (by decide +kernel) (by decide +kernel)
abbrev cX4_refuseNoShare : ByteArray := prog_1_method_27_code
abbrev yX4_refuseNoShare : MethodName := ⟨RX4, "refuseNoShare", "(I)V"⟩
abbrev wsX4_refuseNoShare : List Cond := .code yX4_refuseNoShare cX4_refuseNoShare 1 none :: allW
theorem kX4_refuseNoShare : (.code yX4_refuseNoShare cX4_refuseNoShare 1 none : Cond) ∈ allW := aw 458 (by decide +kernel) (by decide +kernel)
abbrev cX4_inLowestTerms : ByteArray := prog_1_method_28_code
abbrev yX4_inLowestTerms : MethodName := ⟨RX4, "inLowestTerms", "(III)I"⟩
abbrev wsX4_inLowestTerms : List Cond := .code yX4_inLowestTerms cX4_inLowestTerms 4 (some .int) :: allW
theorem kX4_inLowestTerms : (.code yX4_inLowestTerms cX4_inLowestTerms 4 (some .int) : Cond) ∈ allW := aw 477 (by decide +kernel) (by decide +kernel)
abbrev cX4_commonDivisor : ByteArray := prog_1_method_29_code
abbrev yX4_commonDivisor : MethodName := ⟨RX4, "commonDivisor", "(II)I"⟩
abbrev wsX4_commonDivisor : List Cond := .code yX4_commonDivisor cX4_commonDivisor 6 (some .int) :: allW
theorem kX4_commonDivisor : (.code yX4_commonDivisor cX4_commonDivisor 6 (some .int) : Cond) ∈ allW := aw 480 (by decide +kernel) (by decide +kernel)
abbrev cX5_init : ByteArray := prog_7_method_1_code
abbrev yX5_init : MethodName := ⟨RX5, "<init>", "()V"⟩
abbrev wsX5_init : List Cond := .code yX5_init cX5_init 1 none :: allW
theorem kX5_init : (.code yX5_init cX5_init 1 none : Cond) ∈ allW := aw 619 (by decide +kernel) (by decide +kernel)
abbrev cX5_thrownBy : ByteArray := prog_7_method_2_code
abbrev yX5_thrownBy : MethodName := ⟨RX5, "thrownBy", "(ZZZ)I"⟩
abbrev wsX5_thrownBy : List Cond := .code yX5_thrownBy cX5_thrownBy 4 (some .int) :: allW
theorem kX5_thrownBy : (.code yX5_thrownBy cX5_thrownBy 4 (some .int) : Cond) ∈ allW := aw 715 (by decide +kernel) (by decide +kernel)
abbrev cX5_thrown : ByteArray := prog_7_method_3_code
abbrev yX5_thrown : MethodName := ⟨RX5, "thrown", "()I"⟩
abbrev wsX5_thrown : List Cond := .code yX5_thrown cX5_thrown 1 (some .int) :: allW
theorem kX5_thrown : (.code yX5_thrown cX5_thrown 1 (some .int) : Cond) ∈ allW := aw 697 (by decide +kernel) (by decide +kernel)
abbrev cX5_throwing : ByteArray := prog_7_method_4_code
abbrev yX5_throwing : MethodName := ⟨RX5, "throwing", "(ZZZ)Z"⟩
abbrev wsX5_throwing : List Cond := .code yX5_throwing cX5_throwing 4 (some .boolean) :: allW
theorem kX5_throwing : (.code yX5_throwing cX5_throwing 4 (some .boolean) : Cond) ∈ allW := aw 711 (by decide +kernel) (by decide +kernel)
abbrev cX5_in : ByteArray := prog_7_method_5_code
abbrev yX5_in : MethodName := ⟨RX5, "in", "(III)Z"⟩
abbrev wsX5_in : List Cond := .code yX5_in cX5_in 3 (some .boolean) :: allW
theorem kX5_in : (.code yX5_in cX5_in 3 (some .boolean) : Cond) ∈ allW := aw 704 (by decide +kernel) (by decide +kernel)
abbrev cX5_isDay : ByteArray := prog_7_method_6_code
abbrev yX5_isDay : MethodName := ⟨RX5, "isDay", "(I)Z"⟩
abbrev wsX5_isDay : List Cond := .code yX5_isDay cX5_isDay 1 (some .boolean) :: allW
theorem kX5_isDay : (.code yX5_isDay cX5_isDay 1 (some .boolean) : Cond) ∈ allW := aw 707 (by decide +kernel) (by decide +kernel)
abbrev cX5_row : ByteArray := prog_7_method_7_code
abbrev yX5_row : MethodName := ⟨RX5, "row", "(IIIIII)I"⟩
abbrev wsX5_row : List Cond := .code yX5_row cX5_row 8 (some .int) :: allW
theorem kX5_row : (.code yX5_row cX5_row 8 (some .int) : Cond) ∈ allW := aw 701 (by decide +kernel) (by decide +kernel)
abbrev cX5_values : ByteArray := prog_7_method_8_code
abbrev yX5_values : MethodName := ⟨RX5, "values", "(III)V"⟩
abbrev wsX5_values : List Cond := .code yX5_values cX5_values 4 none :: allW
theorem kX5_values : (.code yX5_values cX5_values 4 none : Cond) ∈ allW := aw 719 (by decide +kernel) (by decide +kernel)
abbrev cX5_define : ByteArray := prog_7_method_9_code
abbrev yX5_define : MethodName := ⟨RX5, "define", "(II)I"⟩
abbrev wsX5_define : List Cond := .code yX5_define cX5_define 3 (some .int) :: allW
theorem kX5_define : (.code yX5_define cX5_define 3 (some .int) : Cond) ∈ allW := aw 723 (by decide +kernel) (by decide +kernel)
abbrev cX5_ask : ByteArray := prog_7_method_10_code
abbrev yX5_ask : MethodName := ⟨RX5, "ask", "(IIII)V"⟩
abbrev wsX5_ask : List Cond := .code yX5_ask cX5_ask 5 none :: allW
theorem kX5_ask : (.code yX5_ask cX5_ask 5 none : Cond) ∈ allW := aw 727 (by decide +kernel) (by decide +kernel)
abbrev cX5_fits : ByteArray := prog_7_method_11_code
abbrev yX5_fits : MethodName := ⟨RX5, "fits", "(IIIII)Z"⟩
abbrev wsX5_fits : List Cond := .code yX5_fits cX5_fits 6 (some .boolean) :: allW
theorem kX5_fits : (.code yX5_fits cX5_fits 6 (some .boolean) : Cond) ∈ allW := aw 739 (by decide +kernel) (by decide +kernel)
abbrev cX5_isAsked : ByteArray := prog_7_method_12_code
abbrev yX5_isAsked : MethodName := ⟨RX5, "isAsked", "(I)Z"⟩
abbrev wsX5_isAsked : List Cond := .code yX5_isAsked cX5_isAsked 2 (some .boolean) :: allW
theorem kX5_isAsked : (.code yX5_isAsked cX5_isAsked 2 (some .boolean) : Cond) ∈ allW := aw 735 (by decide +kernel) (by decide +kernel)
abbrev cX5_hasBoth : ByteArray := prog_7_method_13_code
abbrev yX5_hasBoth : MethodName := ⟨RX5, "hasBoth", "(I)Z"⟩
abbrev wsX5_hasBoth : List Cond := .code yX5_hasBoth cX5_hasBoth 2 (some .boolean) :: allW
theorem kX5_hasBoth : (.code yX5_hasBoth cX5_hasBoth 2 (some .boolean) : Cond) ∈ allW := aw 751 (by decide +kernel) (by decide +kernel)
abbrev cX5_markOf : ByteArray := prog_7_method_14_code
abbrev yX5_markOf : MethodName := ⟨RX5, "markOf", "(I)I"⟩
abbrev wsX5_markOf : List Cond := .code yX5_markOf cX5_markOf 4 (some .int) :: allW
theorem kX5_markOf : (.code yX5_markOf cX5_markOf 4 (some .int) : Cond) ∈ allW := aw 755 (by decide +kernel) (by decide +kernel)
abbrev cX5_isWithout : ByteArray := prog_7_method_15_code
abbrev yX5_isWithout : MethodName := ⟨RX5, "isWithout", "(I)Z"⟩
abbrev wsX5_isWithout : List Cond := .code yX5_isWithout cX5_isWithout 2 (some .boolean) :: allW
theorem kX5_isWithout : (.code yX5_isWithout cX5_isWithout 2 (some .boolean) : Cond) ∈ allW := aw 747 (by decide +kernel) (by decide +kernel)
abbrev cX5_isWithin : ByteArray := prog_7_method_16_code
abbrev yX5_isWithin : MethodName := ⟨RX5, "isWithin", "(I)Z"⟩
abbrev wsX5_isWithin : List Cond := .code yX5_isWithin cX5_isWithin 2 (some .boolean) :: allW
theorem kX5_isWithin : (.code yX5_isWithin cX5_isWithin 2 (some .boolean) : Cond) ∈ allW := aw 743 (by decide +kernel) (by decide +kernel)
abbrev cX5_sharesOf : ByteArray := prog_7_method_17_code
abbrev yX5_sharesOf : MethodName := ⟨RX5, "sharesOf", "(III)I"⟩
abbrev wsX5_sharesOf : List Cond := .code yX5_sharesOf cX5_sharesOf 6 (some .int) :: allW
theorem kX5_sharesOf : (.code yX5_sharesOf cX5_sharesOf 6 (some .int) : Cond) ∈ allW := aw 767 (by decide +kernel) (by decide +kernel)
abbrev cX5_count : ByteArray := prog_7_method_18_code
abbrev yX5_count : MethodName := ⟨RX5, "count", "(I)I"⟩
abbrev wsX5_count : List Cond := .code yX5_count cX5_count 5 (some .int) :: allW
theorem kX5_count : (.code yX5_count cX5_count 5 (some .int) : Cond) ∈ allW := aw 731 (by decide +kernel) (by decide +kernel)
abbrev cX5_hour : ByteArray := prog_7_method_19_code
abbrev yX5_hour : MethodName := ⟨RX5, "hour", "(I)I"⟩
abbrev wsX5_hour : List Cond := .code yX5_hour cX5_hour 4 (some .int) :: allW
theorem kX5_hour : (.code yX5_hour cX5_hour 4 (some .int) : Cond) ∈ allW := aw 759 (by decide +kernel) (by decide +kernel)
abbrev cX5_common : ByteArray := prog_7_method_20_code
abbrev yX5_common : MethodName := ⟨RX5, "common", "(II)I"⟩
abbrev wsX5_common : List Cond := .code yX5_common cX5_common 5 (some .int) :: allW
theorem kX5_common : (.code yX5_common cX5_common 5 (some .int) : Cond) ∈ allW := aw 770 (by decide +kernel) (by decide +kernel)
abbrev cX5_share : ByteArray := prog_7_method_21_code
abbrev yX5_share : MethodName := ⟨RX5, "share", "(I)I"⟩
abbrev wsX5_share : List Cond := .code yX5_share cX5_share 4 (some .int) :: allW
theorem kX5_share : (.code yX5_share cX5_share 4 (some .int) : Cond) ∈ allW := aw 763 (by decide +kernel) (by decide +kernel)
abbrev cX5_sumOf : ByteArray := prog_7_method_22_code
abbrev yX5_sumOf : MethodName := ⟨RX5, "sumOf", "(I)I"⟩
abbrev wsX5_sumOf : List Cond := .code yX5_sumOf cX5_sumOf 2 (some .int) :: allW
theorem kX5_sumOf : (.code yX5_sumOf cX5_sumOf 2 (some .int) : Cond) ∈ allW := aw 778 (by decide +kernel) (by decide +kernel)
abbrev cX5_placed : ByteArray := prog_7_method_23_code
abbrev yX5_placed : MethodName := ⟨RX5, "placed", "(I)I"⟩
abbrev wsX5_placed : List Cond := .code yX5_placed cX5_placed 6 (some .int) :: allW
theorem kX5_placed : (.code yX5_placed cX5_placed 6 (some .int) : Cond) ∈ allW := aw 774 (by decide +kernel) (by decide +kernel)
abbrev cX5_splits : ByteArray := prog_7_method_24_code
abbrev yX5_splits : MethodName := ⟨RX5, "splits", "()I"⟩
abbrev wsX5_splits : List Cond := .code yX5_splits cX5_splits 3 (some .int) :: allW
theorem kX5_splits : (.code yX5_splits cX5_splits 3 (some .int) : Cond) ∈ allW := aw 782 (by decide +kernel) (by decide +kernel)
abbrev cX5_compare : ByteArray := prog_7_method_25_code
abbrev yX5_compare : MethodName := ⟨RX5, "compare", "(II)I"⟩
abbrev wsX5_compare : List Cond := .code yX5_compare cX5_compare 12 (some .int) :: allW
theorem kX5_compare : (.code yX5_compare cX5_compare 12 (some .int) : Cond) ∈ allW := aw 786 (by decide +kernel) (by decide +kernel)
abbrev cX5_gain : ByteArray := prog_7_method_26_code
abbrev yX5_gain : MethodName := ⟨RX5, "gain", "(II)I"⟩
abbrev wsX5_gain : List Cond := .code yX5_gain cX5_gain 5 (some .int) :: allW
theorem kX5_gain : (.code yX5_gain cX5_gain 5 (some .int) : Cond) ∈ allW := aw 794 (by decide +kernel) (by decide +kernel)
abbrev cX5_ordersFrom : ByteArray := prog_7_method_27_code
abbrev yX5_ordersFrom : MethodName := ⟨RX5, "ordersFrom", "(II)I"⟩
abbrev wsX5_ordersFrom : List Cond := .code yX5_ordersFrom cX5_ordersFrom 8 (some .int) :: allW
theorem kX5_ordersFrom : (.code yX5_ordersFrom cX5_ordersFrom 8 (some .int) : Cond) ∈ allW := aw 798 (by decide +kernel) (by decide +kernel)
abbrev cX5_trend : ByteArray := prog_7_method_28_code
abbrev yX5_trend : MethodName := ⟨RX5, "trend", "(IIII)I"⟩
abbrev wsX5_trend : List Cond := .code yX5_trend cX5_trend 10 (some .int) :: allW
theorem kX5_trend : (.code yX5_trend cX5_trend 10 (some .int) : Cond) ∈ allW := aw 790 (by decide +kernel) (by decide +kernel)
abbrev cX5_rowsOf : ByteArray := prog_7_method_29_code
abbrev yX5_rowsOf : MethodName := ⟨RX5, "rowsOf", "(II)I"⟩
abbrev wsX5_rowsOf : List Cond := .code yX5_rowsOf cX5_rowsOf 5 (some .int) :: allW
theorem kX5_rowsOf : (.code yX5_rowsOf cX5_rowsOf 5 (some .int) : Cond) ∈ allW := aw 811 (by decide +kernel) (by decide +kernel)
abbrev cX5_people : ByteArray := prog_7_method_30_code
abbrev yX5_people : MethodName := ⟨RX5, "people", "(II)V"⟩
abbrev wsX5_people : List Cond := .code yX5_people cX5_people 3 none :: allW
theorem kX5_people : (.code yX5_people cX5_people 3 none : Cond) ∈ allW := aw 802 (by decide +kernel) (by decide +kernel)
abbrev cX5_perThousand : ByteArray := prog_7_method_31_code
abbrev yX5_perThousand : MethodName := ⟨RX5, "perThousand", "(I)I"⟩
abbrev wsX5_perThousand : List Cond := .code yX5_perThousand cX5_perThousand 3 (some .int) :: allW
theorem kX5_perThousand : (.code yX5_perThousand cX5_perThousand 3 (some .int) : Cond) ∈ allW := aw 807 (by decide +kernel) (by decide +kernel)
abbrev cX5_rank : ByteArray := prog_7_method_32_code
abbrev yX5_rank : MethodName := ⟨RX5, "rank", "(I)I"⟩
abbrev wsX5_rank : List Cond := .code yX5_rank cX5_rank 4 (some .int) :: allW
theorem kX5_rank : (.code yX5_rank cX5_rank 4 (some .int) : Cond) ∈ allW := aw 815 (by decide +kernel) (by decide +kernel)
abbrev cX5_least : ByteArray := prog_7_method_33_code
abbrev yX5_least : MethodName := ⟨RX5, "least", "(I)V"⟩
abbrev wsX5_least : List Cond := .code yX5_least cX5_least 2 none :: allW
theorem kX5_least : (.code yX5_least cX5_least 2 none : Cond) ∈ allW := aw 819 (by decide +kernel) (by decide +kernel)
abbrev cX5_join : ByteArray := prog_7_method_34_code
abbrev yX5_join : MethodName := ⟨RX5, "join", "()I"⟩
abbrev wsX5_join : List Cond := .code yX5_join cX5_join 6 (some .int) :: allW
theorem kX5_join : (.code yX5_join cX5_join 6 (some .int) : Cond) ∈ allW := aw 827 (by decide +kernel) (by decide +kernel)
abbrev cX5_shown : ByteArray := prog_7_method_35_code
abbrev yX5_shown : MethodName := ⟨RX5, "shown", "(I)I"⟩
abbrev wsX5_shown : List Cond := .code yX5_shown cX5_shown 2 (some .int) :: allW
theorem kX5_shown : (.code yX5_shown cX5_shown 2 (some .int) : Cond) ∈ allW := aw 823 (by decide +kernel) (by decide +kernel)
abbrev cX5_joined : ByteArray := prog_7_method_36_code
abbrev yX5_joined : MethodName := ⟨RX5, "joined", "()I"⟩
abbrev wsX5_joined : List Cond := .code yX5_joined cX5_joined 1 (some .int) :: allW
theorem kX5_joined : (.code yX5_joined cX5_joined 1 (some .int) : Cond) ∈ allW := aw 831 (by decide +kernel) (by decide +kernel)
abbrev cX5_work : ByteArray := prog_7_method_37_code
abbrev yX5_work : MethodName := ⟨RX5, "work", "(II)I"⟩
abbrev wsX5_work : List Cond := .code yX5_work cX5_work 6 (some .int) :: allW
theorem kX5_work : (.code yX5_work cX5_work 6 (some .int) : Cond) ∈ allW := aw 835 (by decide +kernel) (by decide +kernel)
abbrev cX0_init : ByteArray := prog_2_method_1_code
abbrev yX0_init : MethodName := ⟨RX0, "<init>", "()V"⟩
abbrev wsX0_init : List Cond := .code yX0_init cX0_init 1 none :: allW
theorem kX0_init : (.code yX0_init cX0_init 1 none : Cond) ∈ allW := aw 59 (by decide +kernel) (by decide +kernel)
abbrev cX0_isFull : ByteArray := prog_2_method_2_code
abbrev yX0_isFull : MethodName := ⟨RX0, "isFull", "()Z"⟩
abbrev wsX0_isFull : List Cond := .code yX0_isFull cX0_isFull 1 (some .boolean) :: allW
theorem kX0_isFull : (.code yX0_isFull cX0_isFull 1 (some .boolean) : Cond) ∈ allW := aw 377 (by decide +kernel) (by decide +kernel)
abbrev cX0_add : ByteArray := prog_2_method_3_code
abbrev yX0_add : MethodName := ⟨RX0, "add", "(II)I"⟩
abbrev wsX0_add : List Cond := .code yX0_add cX0_add 3 (some .int) :: allW
theorem kX0_add : (.code yX0_add cX0_add 3 (some .int) : Cond) ∈ allW := aw 382 (by decide +kernel) (by decide +kernel)
abbrev cX0_markOn : ByteArray := prog_2_method_4_code
abbrev yX0_markOn : MethodName := ⟨RX0, "markOn", "(I)I"⟩
abbrev wsX0_markOn : List Cond := .code yX0_markOn cX0_markOn 5 (some .int) :: allW
theorem kX0_markOn : (.code yX0_markOn cX0_markOn 5 (some .int) : Cond) ∈ allW := aw 185 (by decide +kernel) (by decide +kernel)
abbrev cX0_changes : ByteArray := prog_2_method_5_code
abbrev yX0_changes : MethodName := ⟨RX0, "changes", "(II)I"⟩
abbrev wsX0_changes : List Cond := .code yX0_changes cX0_changes 7 (some .int) :: allW
theorem kX0_changes : (.code yX0_changes cX0_changes 7 (some .int) : Cond) ∈ allW := aw 177 (by decide +kernel) (by decide +kernel)
abbrev cX0_isLastOfItsDay : ByteArray := prog_2_method_6_code
abbrev yX0_isLastOfItsDay : MethodName := ⟨RX0, "isLastOfItsDay", "(I)Z"⟩
abbrev wsX0_isLastOfItsDay : List Cond := .code yX0_isLastOfItsDay cX0_isLastOfItsDay 3 (some .boolean) :: allW
theorem kX0_isLastOfItsDay : (.code yX0_isLastOfItsDay cX0_isLastOfItsDay 3 (some .boolean) : Cond) ∈ allW := aw 181 (by decide +kernel) (by decide +kernel)
abbrev cX1_init : ByteArray := prog_3_method_1_code
abbrev yX1_init : MethodName := ⟨RX1, "<init>", "()V"⟩
abbrev wsX1_init : List Cond := .code yX1_init cX1_init 1 none :: allW
theorem kX1_init : (.code yX1_init cX1_init 1 none : Cond) ∈ allW := aw 76 (by decide +kernel) (by decide +kernel)
abbrev cX1_size : ByteArray := prog_3_method_2_code
abbrev yX1_size : MethodName := ⟨RX1, "size", "()I"⟩
abbrev wsX1_size : List Cond := .code yX1_size cX1_size 1 (some .int) :: allW
theorem kX1_size : (.code yX1_size cX1_size 1 (some .int) : Cond) ∈ allW := aw 362 (by decide +kernel) (by decide +kernel)
abbrev cX1_isFull : ByteArray := prog_3_method_3_code
abbrev yX1_isFull : MethodName := ⟨RX1, "isFull", "()Z"⟩
abbrev wsX1_isFull : List Cond := .code yX1_isFull cX1_isFull 1 (some .boolean) :: allW
theorem kX1_isFull : (.code yX1_isFull cX1_isFull 1 (some .boolean) : Cond) ∈ allW := aw 330 (by decide +kernel) (by decide +kernel)
abbrev cX1_add : ByteArray := prog_3_method_4_code
abbrev yX1_add : MethodName := ⟨RX1, "add", "(IIIIII)I"⟩
abbrev wsX1_add : List Cond := .code yX1_add cX1_add 8 (some .int) :: allW
theorem kX1_add : (.code yX1_add cX1_add 8 (some .int) : Cond) ∈ allW := aw 350 (by decide +kernel) (by decide +kernel)
abbrev cX1_setSeconds : ByteArray := prog_3_method_5_code
abbrev yX1_setSeconds : MethodName := ⟨RX1, "setSeconds", "(III)V"⟩
abbrev wsX1_setSeconds : List Cond := .code yX1_setSeconds cX1_setSeconds 4 none :: allW
theorem kX1_setSeconds : (.code yX1_setSeconds cX1_setSeconds 4 none : Cond) ∈ allW := aw 366 (by decide +kernel) (by decide +kernel)
abbrev cX1_number : ByteArray := prog_3_method_6_code
abbrev yX1_number : MethodName := ⟨RX1, "number", "(IIII)I"⟩
abbrev wsX1_number : List Cond := .code yX1_number cX1_number 7 (some .int) :: allW
theorem kX1_number : (.code yX1_number cX1_number 7 (some .int) : Cond) ∈ allW := aw 197 (by decide +kernel) (by decide +kernel)
abbrev cX1_total : ByteArray := prog_3_method_7_code
abbrev yX1_total : MethodName := ⟨RX1, "total", "(ILShareStatistics$Definitions;IIII)I"⟩
abbrev wsX1_total : List Cond := .code yX1_total cX1_total 9 (some .int) :: allW
theorem kX1_total : (.code yX1_total cX1_total 9 (some .int) : Cond) ∈ allW := aw 408 (by decide +kernel) (by decide +kernel)
abbrev cX1_inHour : ByteArray := prog_3_method_8_code
abbrev yX1_inHour : MethodName := ⟨RX1, "inHour", "(IIIII)I"⟩
abbrev wsX1_inHour : List Cond := .code yX1_inHour cX1_inHour 8 (some .int) :: allW
theorem kX1_inHour : (.code yX1_inHour cX1_inHour 8 (some .int) : Cond) ∈ allW := aw 439 (by decide +kernel) (by decide +kernel)
abbrev cX1_sumAtPlace : ByteArray := prog_3_method_9_code
abbrev yX1_sumAtPlace : MethodName := ⟨RX1, "sumAtPlace", "(IIIII)I"⟩
abbrev wsX1_sumAtPlace : List Cond := .code yX1_sumAtPlace cX1_sumAtPlace 8 (some .int) :: allW
theorem kX1_sumAtPlace : (.code yX1_sumAtPlace cX1_sumAtPlace 8 (some .int) : Cond) ∈ allW := aw 491 (by decide +kernel) (by decide +kernel)
abbrev cX1_hidden : ByteArray := prog_3_method_10_code
abbrev yX1_hidden : MethodName := ⟨RX1, "hidden", "(II)I"⟩
abbrev wsX1_hidden : List Cond := .code yX1_hidden cX1_hidden 5 (some .int) :: allW
theorem kX1_hidden : (.code yX1_hidden cX1_hidden 5 (some .int) : Cond) ∈ allW := aw 213 (by decide +kernel) (by decide +kernel)
abbrev cX1_ofStation : ByteArray := prog_3_method_11_code
abbrev yX1_ofStation : MethodName := ⟨RX1, "ofStation", "(III)I"⟩
abbrev wsX1_ofStation : List Cond := .code yX1_ofStation cX1_ofStation 6 (some .int) :: allW
theorem kX1_ofStation : (.code yX1_ofStation cX1_ofStation 6 (some .int) : Cond) ∈ allW := aw 606 (by decide +kernel) (by decide +kernel)
abbrev cX1_secondsOfStation : ByteArray := prog_3_method_12_code
abbrev yX1_secondsOfStation : MethodName := ⟨RX1, "secondsOfStation", "(III)I"⟩
abbrev wsX1_secondsOfStation : List Cond := .code yX1_secondsOfStation cX1_secondsOfStation 6 (some .int) :: allW
theorem kX1_secondsOfStation : (.code yX1_secondsOfStation cX1_secondsOfStation 6 (some .int) : Cond) ∈ allW := aw 614 (by decide +kernel) (by decide +kernel)
abbrev cX1_amount : ByteArray := prog_3_method_13_code
abbrev yX1_amount : MethodName := ⟨RX1, "amount", "(III)I"⟩
abbrev wsX1_amount : List Cond := .code yX1_amount cX1_amount 4 (some .int) :: allW
theorem kX1_amount : (.code yX1_amount cX1_amount 4 (some .int) : Cond) ∈ allW := aw 413 (by decide +kernel) (by decide +kernel)
abbrev cX1_isWork : ByteArray := prog_3_method_14_code
abbrev yX1_isWork : MethodName := ⟨RX1, "isWork", "(IIII)Z"⟩
abbrev wsX1_isWork : List Cond := .code yX1_isWork cX1_isWork 5 (some .boolean) :: allW
theorem kX1_isWork : (.code yX1_isWork cX1_isWork 5 (some .boolean) : Cond) ∈ allW := aw 610 (by decide +kernel) (by decide +kernel)
abbrev cX1_isAsked : ByteArray := prog_3_method_15_code
abbrev yX1_isAsked : MethodName := ⟨RX1, "isAsked", "(IIIII)Z"⟩
abbrev wsX1_isAsked : List Cond := .code yX1_isAsked cX1_isAsked 6 (some .boolean) :: allW
theorem kX1_isAsked : (.code yX1_isAsked cX1_isAsked 6 (some .boolean) : Cond) ∈ allW := aw 201 (by decide +kernel) (by decide +kernel)
abbrev cX1_isHidden : ByteArray := prog_3_method_16_code
abbrev yX1_isHidden : MethodName := ⟨RX1, "isHidden", "(I)Z"⟩
abbrev wsX1_isHidden : List Cond := .code yX1_isHidden cX1_isHidden 2 (some .boolean) :: allW
theorem kX1_isHidden : (.code yX1_isHidden cX1_isHidden 2 (some .boolean) : Cond) ∈ allW := aw 205 (by decide +kernel) (by decide +kernel)
abbrev cX1_isInSpan : ByteArray := prog_3_method_17_code
abbrev yX1_isInSpan : MethodName := ⟨RX1, "isInSpan", "(III)Z"⟩
abbrev wsX1_isInSpan : List Cond := .code yX1_isInSpan cX1_isInSpan 4 (some .boolean) :: allW
theorem kX1_isInSpan : (.code yX1_isInSpan cX1_isInSpan 4 (some .boolean) : Cond) ∈ allW := aw 209 (by decide +kernel) (by decide +kernel)
abbrev cX1_hasBothValues : ByteArray := prog_3_method_18_code
abbrev yX1_hasBothValues : MethodName := ⟨RX1, "hasBothValues", "(I)Z"⟩
abbrev wsX1_hasBothValues : List Cond := .code yX1_hasBothValues cX1_hasBothValues 2 (some .boolean) :: allW
theorem kX1_hasBothValues : (.code yX1_hasBothValues cX1_hasBothValues 2 (some .boolean) : Cond) ∈ allW := aw 425 (by decide +kernel) (by decide +kernel)
abbrev cX1_isWithout : ByteArray := prog_3_method_19_code
abbrev yX1_isWithout : MethodName := ⟨RX1, "isWithout", "(II)Z"⟩
abbrev wsX1_isWithout : List Cond := .code yX1_isWithout cX1_isWithout 3 (some .boolean) :: allW
theorem kX1_isWithout : (.code yX1_isWithout cX1_isWithout 3 (some .boolean) : Cond) ∈ allW := aw 421 (by decide +kernel) (by decide +kernel)
abbrev cX1_isWithin : ByteArray := prog_3_method_20_code
abbrev yX1_isWithin : MethodName := ⟨RX1, "isWithin", "(II)Z"⟩
abbrev wsX1_isWithin : List Cond := .code yX1_isWithin cX1_isWithin 3 (some .boolean) :: allW
theorem kX1_isWithin : (.code yX1_isWithin cX1_isWithin 3 (some .boolean) : Cond) ∈ allW := aw 417 (by decide +kernel) (by decide +kernel)
abbrev cX1_secondsOf : ByteArray := prog_3_method_21_code
abbrev yX1_secondsOf : MethodName := ⟨RX1, "secondsOf", "(I)I"⟩
abbrev wsX1_secondsOf : List Cond := .code yX1_secondsOf cX1_secondsOf 1 (some .int) :: allW
theorem kX1_secondsOf : (.code yX1_secondsOf cX1_secondsOf 1 (some .int) : Cond) ∈ allW := aw 428 (by decide +kernel) (by decide +kernel)
abbrev cX1_sortIn : ByteArray := prog_3_method_22_code
abbrev yX1_sortIn : MethodName := ⟨RX1, "sortIn", "(II)V"⟩
abbrev wsX1_sortIn : List Cond := .code yX1_sortIn cX1_sortIn 4 none :: allW
theorem kX1_sortIn : (.code yX1_sortIn cX1_sortIn 4 none : Cond) ∈ allW := aw 495 (by decide +kernel) (by decide +kernel)
abbrev cX2_init : ByteArray := prog_4_method_1_code
abbrev yX2_init : MethodName := ⟨RX2, "<init>", "()V"⟩
abbrev wsX2_init : List Cond := .code yX2_init cX2_init 1 none :: allW
theorem kX2_init : (.code yX2_init cX2_init 1 none : Cond) ∈ allW := aw 126 (by decide +kernel) (by decide +kernel)
abbrev cX2_setLeast : ByteArray := prog_4_method_2_code
abbrev yX2_setLeast : MethodName := ⟨RX2, "setLeast", "(I)V"⟩
abbrev wsX2_setLeast : List Cond := .code yX2_setLeast cX2_setLeast 2 none :: allW
theorem kX2_setLeast : (.code yX2_setLeast cX2_setLeast 2 none : Cond) ∈ allW := aw 584 (by decide +kernel) (by decide +kernel)
abbrev cX2_join : ByteArray := prog_4_method_3_code
abbrev yX2_join : MethodName := ⟨RX2, "join", "(LShareStatistics$Incidents;II)V"⟩
abbrev wsX2_join : List Cond := .code yX2_join cX2_join 6 none :: allW
theorem kX2_join : (.code yX2_join cX2_join 6 none : Cond) ∈ allW := aw 193 (by decide +kernel) (by decide +kernel)
abbrev cX2_rowsShown : ByteArray := prog_4_method_4_code
abbrev yX2_rowsShown : MethodName := ⟨RX2, "rowsShown", "(I)I"⟩
abbrev wsX2_rowsShown : List Cond := .code yX2_rowsShown cX2_rowsShown 2 (some .int) :: allW
theorem kX2_rowsShown : (.code yX2_rowsShown cX2_rowsShown 2 (some .int) : Cond) ∈ allW := aw 595 (by decide +kernel) (by decide +kernel)
abbrev cX2_rowsTogether : ByteArray := prog_4_method_5_code
abbrev yX2_rowsTogether : MethodName := ⟨RX2, "rowsTogether", "()I"⟩
abbrev wsX2_rowsTogether : List Cond := .code yX2_rowsTogether cX2_rowsTogether 1 (some .int) :: allW
theorem kX2_rowsTogether : (.code yX2_rowsTogether cX2_rowsTogether 1 (some .int) : Cond) ∈ allW := aw 225 (by decide +kernel) (by decide +kernel)
abbrev cX2_joinMore : ByteArray := prog_4_method_6_code
abbrev yX2_joinMore : MethodName := ⟨RX2, "joinMore", "()V"⟩
abbrev wsX2_joinMore : List Cond := .code yX2_joinMore cX2_joinMore 3 none :: allW
theorem kX2_joinMore : (.code yX2_joinMore cX2_joinMore 3 none : Cond) ∈ allW := aw 217 (by decide +kernel) (by decide +kernel)
abbrev cX2_areaOfFewest : ByteArray := prog_4_method_7_code
abbrev yX2_areaOfFewest : MethodName := ⟨RX2, "areaOfFewest", "()I"⟩
abbrev wsX2_areaOfFewest : List Cond := .code yX2_areaOfFewest cX2_areaOfFewest 4 (some .int) :: allW
theorem kX2_areaOfFewest : (.code yX2_areaOfFewest cX2_areaOfFewest 4 (some .int) : Cond) ∈ allW := aw 221 (by decide +kernel) (by decide +kernel)
abbrev cX3_init : ByteArray := prog_5_method_1_code
abbrev yX3_init : MethodName := ⟨RX3, "<init>", "()V"⟩
abbrev wsX3_init : List Cond := .code yX3_init cX3_init 1 none :: allW
theorem kX3_init : (.code yX3_init cX3_init 1 none : Cond) ∈ allW := aw 113 (by decide +kernel) (by decide +kernel)
abbrev cX3_start : ByteArray := prog_5_method_2_code
abbrev yX3_start : MethodName := ⟨RX3, "start", "(I)V"⟩
abbrev wsX3_start : List Cond := .code yX3_start cX3_start 2 none :: allW
theorem kX3_start : (.code yX3_start cX3_start 2 none : Cond) ∈ allW := aw 516 (by decide +kernel) (by decide +kernel)
abbrev cX3_setCount : ByteArray := prog_5_method_3_code
abbrev yX3_setCount : MethodName := ⟨RX3, "setCount", "(II)V"⟩
abbrev wsX3_setCount : List Cond := .code yX3_setCount cX3_setCount 3 none :: allW
theorem kX3_setCount : (.code yX3_setCount cX3_setCount 3 none : Cond) ∈ allW := aw 524 (by decide +kernel) (by decide +kernel)
abbrev cX3_sum : ByteArray := prog_5_method_4_code
abbrev yX3_sum : MethodName := ⟨RX3, "sum", "()I"⟩
abbrev wsX3_sum : List Cond := .code yX3_sum cX3_sum 4 (some .int) :: allW
theorem kX3_sum : (.code yX3_sum cX3_sum 4 (some .int) : Cond) ∈ allW := aw 528 (by decide +kernel) (by decide +kernel)
abbrev cX3_orders : ByteArray := prog_5_method_5_code
abbrev yX3_orders : MethodName := ⟨RX3, "orders", "()I"⟩
abbrev wsX3_orders : List Cond := .code yX3_orders cX3_orders 3 (some .int) :: allW
theorem kX3_orders : (.code yX3_orders cX3_orders 3 (some .int) : Cond) ∈ allW := aw 546 (by decide +kernel) (by decide +kernel)
abbrev cX3_ordersNotBelow : ByteArray := prog_5_method_6_code
abbrev yX3_ordersNotBelow : MethodName := ⟨RX3, "ordersNotBelow", "(I)I"⟩
abbrev wsX3_ordersNotBelow : List Cond := .code yX3_ordersNotBelow cX3_ordersNotBelow 2 (some .int) :: allW
theorem kX3_ordersNotBelow : (.code yX3_ordersNotBelow cX3_ordersNotBelow 2 (some .int) : Cond) ∈ allW := aw 539 (by decide +kernel) (by decide +kernel)
abbrev cX3_ordersBehind : ByteArray := prog_5_method_7_code
abbrev yX3_ordersBehind : MethodName := ⟨RX3, "ordersBehind", "([IIIIII)I"⟩
abbrev wsX3_ordersBehind : List Cond := .code yX3_ordersBehind cX3_ordersBehind 9 (some .int) :: allW
theorem kX3_ordersBehind : (.code yX3_ordersBehind cX3_ordersBehind 9 (some .int) : Cond) ∈ allW := aw 542 (by decide +kernel) (by decide +kernel)
abbrev cX3_gain : ByteArray := prog_5_method_8_code
abbrev yX3_gain : MethodName := ⟨RX3, "gain", "([IIII)I"⟩
abbrev wsX3_gain : List Cond := .code yX3_gain cX3_gain 6 (some .int) :: allW
theorem kX3_gain : (.code yX3_gain cX3_gain 6 (some .int) : Cond) ∈ allW := aw 531 (by decide +kernel) (by decide +kernel)
abbrev cX3_isTaken : ByteArray := prog_5_method_9_code
abbrev yX3_isTaken : MethodName := ⟨RX3, "isTaken", "(II)Z"⟩
abbrev wsX3_isTaken : List Cond := .code yX3_isTaken cX3_isTaken 2 (some .boolean) :: allW
theorem kX3_isTaken : (.code yX3_isTaken cX3_isTaken 2 (some .boolean) : Cond) ∈ allW := aw 534 (by decide +kernel) (by decide +kernel)
abbrev cL_row : ByteArray := method_3_code
abbrev yL_row : MethodName := ⟨RL, "row", "(LShareStatistics;IIIIII[J)I"⟩
abbrev wsL_row : List Cond := .codeWith yL_row cL_row 9 (some .int) [(0, 18, 21, 13), (0, 18, 25, 15), (0, 18, 29, 17)] :: allW
theorem kL_row : (.codeWith yL_row cL_row 9 (some .int) [(0, 18, 21, 13), (0, 18, 25, 15), (0, 18, 29, 17)] : Cond) ∈ allW := aw 228 (by decide +kernel) (by decide +kernel)
abbrev cL_values : ByteArray := method_4_code
abbrev yL_values : MethodName := ⟨RL, "values", "(LShareStatistics;III)I"⟩
abbrev wsL_values : List Cond := .codeWith yL_values cL_values 5 (some .int) [(0, 7, 10, 13), (0, 7, 14, 15)] :: allW
theorem kL_values : (.codeWith yL_values cL_values 5 (some .int) [(0, 7, 10, 13), (0, 7, 14, 15)] : Cond) ∈ allW := aw 354 (by decide +kernel) (by decide +kernel)
abbrev cL_define : ByteArray := method_5_code
abbrev yL_define : MethodName := ⟨RL, "define", "(LShareStatistics;II[J)I"⟩
abbrev wsL_define : List Cond := .codeWith yL_define cL_define 5 (some .int) [(0, 10, 13, 15), (0, 10, 17, 17)] :: allW
theorem kL_define : (.codeWith yL_define cL_define 5 (some .int) [(0, 10, 13, 15), (0, 10, 17, 17)] : Cond) ∈ allW := aw 369 (by decide +kernel) (by decide +kernel)
abbrev cL_ask : ByteArray := method_6_code
abbrev yL_ask : MethodName := ⟨RL, "ask", "(LShareStatistics;IIII)I"⟩
abbrev wsL_ask : List Cond := .codeWith yL_ask cL_ask 6 (some .int) [(0, 9, 12, 13), (0, 9, 16, 15)] :: allW
theorem kL_ask : (.codeWith yL_ask cL_ask 6 (some .int) [(0, 9, 12, 13), (0, 9, 16, 15)] : Cond) ∈ allW := aw 386 (by decide +kernel) (by decide +kernel)
abbrev cL_count : ByteArray := method_7_code
abbrev yL_count : MethodName := ⟨RL, "count", "(LShareStatistics;I[J)I"⟩
abbrev wsL_count : List Cond := .codeWith yL_count cL_count 4 (some .int) [(0, 9, 12, 13)] :: allW
theorem kL_count : (.codeWith yL_count cL_count 4 (some .int) [(0, 9, 12, 13)] : Cond) ∈ allW := aw 396 (by decide +kernel) (by decide +kernel)
abbrev cL_hour : ByteArray := method_8_code
abbrev yL_hour : MethodName := ⟨RL, "hour", "(LShareStatistics;I[J)I"⟩
abbrev wsL_hour : List Cond := .codeWith yL_hour cL_hour 4 (some .int) [(0, 9, 12, 15)] :: allW
theorem kL_hour : (.codeWith yL_hour cL_hour 4 (some .int) [(0, 9, 12, 15)] : Cond) ∈ allW := aw 431 (by decide +kernel) (by decide +kernel)
abbrev cL_share : ByteArray := method_9_code
abbrev yL_share : MethodName := ⟨RL, "share", "(LShareStatistics;I[J)I"⟩
abbrev wsL_share : List Cond := .codeWith yL_share cL_share 4 (some .int) [(0, 9, 12, 13), (0, 9, 15, 41)] :: allW
theorem kL_share : (.codeWith yL_share cL_share 4 (some .int) [(0, 9, 12, 13), (0, 9, 15, 41)] : Cond) ∈ allW := aw 442 (by decide +kernel) (by decide +kernel)
abbrev cL_placed : ByteArray := method_10_code
abbrev yL_placed : MethodName := ⟨RL, "placed", "(LShareStatistics;I[J)I"⟩
abbrev wsL_placed : List Cond := .codeWith yL_placed cL_placed 4 (some .int) [(0, 9, 12, 15)] :: allW
theorem kL_placed : (.codeWith yL_placed cL_placed 4 (some .int) [(0, 9, 12, 15)] : Cond) ∈ allW := aw 483 (by decide +kernel) (by decide +kernel)
abbrev cL_compare : ByteArray := method_11_code
abbrev yL_compare : MethodName := ⟨RL, "compare", "(LShareStatistics;II[J)I"⟩
abbrev wsL_compare : List Cond := .codeWith yL_compare cL_compare 5 (some .int) [(0, 10, 13, 15), (0, 10, 17, 41)] :: allW
theorem kL_compare : (.codeWith yL_compare cL_compare 5 (some .int) [(0, 10, 13, 15), (0, 10, 17, 41)] : Cond) ∈ allW := aw 498 (by decide +kernel) (by decide +kernel)
abbrev cL_trend : ByteArray := method_12_code
abbrev yL_trend : MethodName := ⟨RL, "trend", "(LShareStatistics;IIII[J)I"⟩
abbrev wsL_trend : List Cond := .codeWith yL_trend cL_trend 7 (some .int) [(0, 14, 17, 13), (0, 14, 21, 15)] :: allW
theorem kL_trend : (.codeWith yL_trend cL_trend 7 (some .int) [(0, 14, 17, 13), (0, 14, 21, 15)] : Cond) ∈ allW := aw 508 (by decide +kernel) (by decide +kernel)
abbrev cL_people : ByteArray := method_13_code
abbrev yL_people : MethodName := ⟨RL, "people", "(LShareStatistics;II)I"⟩
abbrev wsL_people : List Cond := .codeWith yL_people cL_people 4 (some .int) [(0, 6, 9, 13), (0, 6, 12, 15)] :: allW
theorem kL_people : (.codeWith yL_people cL_people 4 (some .int) [(0, 6, 9, 13), (0, 6, 12, 15)] : Cond) ∈ allW := aw 549 (by decide +kernel) (by decide +kernel)
abbrev cL_perThousand : ByteArray := method_14_code
abbrev yL_perThousand : MethodName := ⟨RL, "perThousand", "(LShareStatistics;I[J)I"⟩
abbrev wsL_perThousand : List Cond := .codeWith yL_perThousand cL_perThousand 4 (some .int) [(0, 9, 12, 13), (0, 9, 15, 41)] :: allW
theorem kL_perThousand : (.codeWith yL_perThousand cL_perThousand 4 (some .int) [(0, 9, 12, 13), (0, 9, 15, 41)] : Cond) ∈ allW := aw 557 (by decide +kernel) (by decide +kernel)
abbrev cL_rank : ByteArray := method_15_code
abbrev yL_rank : MethodName := ⟨RL, "rank", "(LShareStatistics;I[J)I"⟩
abbrev wsL_rank : List Cond := .codeWith yL_rank cL_rank 4 (some .int) [(0, 9, 12, 13)] :: allW
theorem kL_rank : (.codeWith yL_rank cL_rank 4 (some .int) [(0, 9, 12, 13)] : Cond) ∈ allW := aw 569 (by decide +kernel) (by decide +kernel)
abbrev cL_least : ByteArray := method_16_code
abbrev yL_least : MethodName := ⟨RL, "least", "(LShareStatistics;I)I"⟩
abbrev wsL_least : List Cond := .codeWith yL_least cL_least 3 (some .int) [(0, 5, 8, 15)] :: allW
theorem kL_least : (.codeWith yL_least cL_least 3 (some .int) [(0, 5, 8, 15)] : Cond) ∈ allW := aw 576 (by decide +kernel) (by decide +kernel)
abbrev cL_shown : ByteArray := method_17_code
abbrev yL_shown : MethodName := ⟨RL, "shown", "(LShareStatistics;I[J)I"⟩
abbrev wsL_shown : List Cond := .codeWith yL_shown cL_shown 4 (some .int) [(0, 9, 12, 13)] :: allW
theorem kL_shown : (.codeWith yL_shown cL_shown 4 (some .int) [(0, 9, 12, 13)] : Cond) ∈ allW := aw 587 (by decide +kernel) (by decide +kernel)
abbrev cL_work : ByteArray := method_18_code
abbrev yL_work : MethodName := ⟨RL, "work", "(LShareStatistics;II[J)I"⟩
abbrev wsL_work : List Cond := .codeWith yL_work cL_work 5 (some .int) [(0, 10, 13, 13)] :: allW
theorem kL_work : (.codeWith yL_work cL_work 5 (some .int) [(0, 10, 13, 13)] : Cond) ∈ allW := aw 598 (by decide +kernel) (by decide +kernel)
abbrev cL_law : ByteArray := code
def yL_law : MethodName := ⟨RL, "law", "([I)Z"⟩
theorem in_L : ((Jvm.Cond.initialized "ShareStatisticsLaw")) ∈ allW := aw 31 (by decide +kernel) (by decide +kernel)
theorem in_X4 : ((Jvm.Cond.initialized "ShareStatistics")) ∈ allW := aw 32 (by decide +kernel) (by decide +kernel)
theorem in_X0 : ((Jvm.Cond.initialized "ShareStatistics$Definitions")) ∈ allW := aw 33 (by decide +kernel) (by decide +kernel)
theorem in_X1 : ((Jvm.Cond.initialized "ShareStatistics$Incidents")) ∈ allW := aw 34 (by decide +kernel) (by decide +kernel)
theorem in_X3 : ((Jvm.Cond.initialized "ShareStatistics$Trend")) ∈ allW := aw 35 (by decide +kernel) (by decide +kernel)
theorem in_X2 : ((Jvm.Cond.initialized "ShareStatistics$Secrecy")) ∈ allW := aw 36 (by decide +kernel) (by decide +kernel)
theorem in_X5 : ((Jvm.Cond.initialized "ShareStatisticsModel")) ∈ allW := aw 37 (by decide +kernel) (by decide +kernel)
theorem in_Throwable : ((Jvm.Cond.initialized "java/lang/Throwable")) ∈ allW := aw 38 (by decide +kernel) (by decide +kernel)
theorem in_Exception : ((Jvm.Cond.initialized "java/lang/Exception")) ∈ allW := aw 39 (by decide +kernel) (by decide +kernel)
theorem in_RuntimeException : ((Jvm.Cond.initialized "java/lang/RuntimeException")) ∈ allW := aw 40 (by decide +kernel) (by decide +kernel)
theorem in_IllegalArgumentException : ((Jvm.Cond.initialized "java/lang/IllegalArgumentException")) ∈ allW := aw 41 (by decide +kernel) (by decide +kernel)
theorem in_IndexOutOfBoundsException : ((Jvm.Cond.initialized "java/lang/IndexOutOfBoundsException")) ∈ allW := aw 42 (by decide +kernel) (by decide +kernel)
theorem in_UnsupportedOperationException : ((Jvm.Cond.initialized "java/lang/UnsupportedOperationException")) ∈ allW := aw 43 (by decide +kernel) (by decide +kernel)
theorem in_ArithmeticException : ((Jvm.Cond.initialized "java/lang/ArithmeticException")) ∈ allW := aw 44 (by decide +kernel) (by decide +kernel)
theorem in_Integer : ((Jvm.Cond.initialized "java/lang/Integer")) ∈ allW := aw 45 (by decide +kernel) (by decide +kernel)
theorem in_Math : ((Jvm.Cond.initialized "java/lang/Math")) ∈ allW := aw 46 (by decide +kernel) (by decide +kernel)
theorem cl_L_X4 : ((Jvm.Cond.classLink "ShareStatisticsLaw" (8 : Nat) "ShareStatistics")) ∈ allW := aw 47 (by decide +kernel) (by decide +kernel)
theorem mk_X4 : ((Jvm.Cond.instantiable "ShareStatistics" (9 : Nat))) ∈ allW := aw 48 (by decide +kernel) (by decide +kernel)
theorem ml_L_X4_init : ((Jvm.Cond.methodLink "ShareStatisticsLaw" (73 : Nat) ({ cls := "ShareStatistics", name := "<init>", desc := "()V" } : Jvm.MethodName))) ∈ allW := aw 49 (by decide +kernel) (by decide +kernel)
theorem im_X4_init : ((Jvm.Cond.instanceMethod ({ cls := "ShareStatistics", name := "<init>", desc := "()V" } : Jvm.MethodName))) ∈ allW := aw 50 (by decide +kernel) (by decide +kernel)
theorem ml_X4_Object_init : ((Jvm.Cond.methodLink "ShareStatistics" (1 : Nat) ({ cls := "java/lang/Object", name := "<init>", desc := "()V" } : Jvm.MethodName))) ∈ allW := aw 52 (by decide +kernel) (by decide +kernel)
theorem cl_X4_X0 : ((Jvm.Cond.classLink "ShareStatistics" (7 : Nat) "ShareStatistics$Definitions")) ∈ allW := aw 55 (by decide +kernel) (by decide +kernel)
theorem mk_X0 : ((Jvm.Cond.instantiable "ShareStatistics$Definitions" (3 : Nat))) ∈ allW := aw 56 (by decide +kernel) (by decide +kernel)
theorem im_X0_init : ((Jvm.Cond.instanceMethod ({ cls := "ShareStatistics$Definitions", name := "<init>", desc := "()V" } : Jvm.MethodName))) ∈ allW := aw 58 (by decide +kernel) (by decide +kernel)
theorem ml_X0_Object_init : ((Jvm.Cond.methodLink "ShareStatistics$Definitions" (3 : Nat) ({ cls := "java/lang/Object", name := "<init>", desc := "()V" } : Jvm.MethodName))) ∈ allW := aw 60 (by decide +kernel) (by decide +kernel)
theorem fl_X0_days : ((Jvm.Cond.fieldLink "ShareStatistics$Definitions" (9 : Nat) "ShareStatistics$Definitions" "days" "[I")) ∈ allW := aw 61 (by decide +kernel) (by decide +kernel)
theorem fl_X0_limits : ((Jvm.Cond.fieldLink "ShareStatistics$Definitions" (15 : Nat) "ShareStatistics$Definitions" "limits" "[I")) ∈ allW := aw 62 (by decide +kernel) (by decide +kernel)
theorem fl_X0_size : ((Jvm.Cond.fieldLink "ShareStatistics$Definitions" (18 : Nat) "ShareStatistics$Definitions" "size" "I")) ∈ allW := aw 63 (by decide +kernel) (by decide +kernel)
theorem ac_int : ((Jvm.Cond.arrayClass Jvm.ClassFile.FieldType.int)) ∈ allW := aw 71 (by decide +kernel) (by decide +kernel)
theorem cl_X4_X1 : ((Jvm.Cond.classLink "ShareStatistics" (16 : Nat) "ShareStatistics$Incidents")) ∈ allW := aw 72 (by decide +kernel) (by decide +kernel)
theorem mk_X1 : ((Jvm.Cond.instantiable "ShareStatistics$Incidents" (10 : Nat))) ∈ allW := aw 73 (by decide +kernel) (by decide +kernel)
theorem im_X1_init : ((Jvm.Cond.instanceMethod ({ cls := "ShareStatistics$Incidents", name := "<init>", desc := "()V" } : Jvm.MethodName))) ∈ allW := aw 75 (by decide +kernel) (by decide +kernel)
theorem ml_X1_Object_init : ((Jvm.Cond.methodLink "ShareStatistics$Incidents" (3 : Nat) ({ cls := "java/lang/Object", name := "<init>", desc := "()V" } : Jvm.MethodName))) ∈ allW := aw 77 (by decide +kernel) (by decide +kernel)
theorem fl_X1_days : ((Jvm.Cond.fieldLink "ShareStatistics$Incidents" (9 : Nat) "ShareStatistics$Incidents" "days" "[I")) ∈ allW := aw 78 (by decide +kernel) (by decide +kernel)
theorem fl_X1_hours : ((Jvm.Cond.fieldLink "ShareStatistics$Incidents" (15 : Nat) "ShareStatistics$Incidents" "hours" "[I")) ∈ allW := aw 79 (by decide +kernel) (by decide +kernel)
theorem fl_X1_kinds : ((Jvm.Cond.fieldLink "ShareStatistics$Incidents" (18 : Nat) "ShareStatistics$Incidents" "kinds" "[I")) ∈ allW := aw 80 (by decide +kernel) (by decide +kernel)
theorem fl_X1_areas : ((Jvm.Cond.fieldLink "ShareStatistics$Incidents" (21 : Nat) "ShareStatistics$Incidents" "areas" "[I")) ∈ allW := aw 81 (by decide +kernel) (by decide +kernel)
theorem fl_X1_stations : ((Jvm.Cond.fieldLink "ShareStatistics$Incidents" (24 : Nat) "ShareStatistics$Incidents" "stations" "[I")) ∈ allW := aw 82 (by decide +kernel) (by decide +kernel)
theorem fl_X1_marks : ((Jvm.Cond.fieldLink "ShareStatistics$Incidents" (27 : Nat) "ShareStatistics$Incidents" "marks" "[I")) ∈ allW := aw 83 (by decide +kernel) (by decide +kernel)
theorem fl_X1_turnOuts : ((Jvm.Cond.fieldLink "ShareStatistics$Incidents" (30 : Nat) "ShareStatistics$Incidents" "turnOuts" "[I")) ∈ allW := aw 84 (by decide +kernel) (by decide +kernel)
theorem fl_X1_travels : ((Jvm.Cond.fieldLink "ShareStatistics$Incidents" (33 : Nat) "ShareStatistics$Incidents" "travels" "[I")) ∈ allW := aw 85 (by decide +kernel) (by decide +kernel)
theorem fl_X1_sortedSums : ((Jvm.Cond.fieldLink "ShareStatistics$Incidents" (36 : Nat) "ShareStatistics$Incidents" "sortedSums" "[I")) ∈ allW := aw 86 (by decide +kernel) (by decide +kernel)
theorem fl_X1_size : ((Jvm.Cond.fieldLink "ShareStatistics$Incidents" (39 : Nat) "ShareStatistics$Incidents" "size" "I")) ∈ allW := aw 87 (by decide +kernel) (by decide +kernel)
theorem cl_X4_X3 : ((Jvm.Cond.classLink "ShareStatistics" (23 : Nat) "ShareStatistics$Trend")) ∈ allW := aw 109 (by decide +kernel) (by decide +kernel)
theorem mk_X3 : ((Jvm.Cond.instantiable "ShareStatistics$Trend" (2 : Nat))) ∈ allW := aw 110 (by decide +kernel) (by decide +kernel)
theorem im_X3_init : ((Jvm.Cond.instanceMethod ({ cls := "ShareStatistics$Trend", name := "<init>", desc := "()V" } : Jvm.MethodName))) ∈ allW := aw 112 (by decide +kernel) (by decide +kernel)
theorem ml_X3_Object_init : ((Jvm.Cond.methodLink "ShareStatistics$Trend" (3 : Nat) ({ cls := "java/lang/Object", name := "<init>", desc := "()V" } : Jvm.MethodName))) ∈ allW := aw 114 (by decide +kernel) (by decide +kernel)
theorem fl_X3_counts : ((Jvm.Cond.fieldLink "ShareStatistics$Trend" (9 : Nat) "ShareStatistics$Trend" "counts" "[I")) ∈ allW := aw 115 (by decide +kernel) (by decide +kernel)
theorem fl_X3_periods : ((Jvm.Cond.fieldLink "ShareStatistics$Trend" (21 : Nat) "ShareStatistics$Trend" "periods" "I")) ∈ allW := aw 116 (by decide +kernel) (by decide +kernel)
theorem cl_X4_X2 : ((Jvm.Cond.classLink "ShareStatistics" (30 : Nat) "ShareStatistics$Secrecy")) ∈ allW := aw 122 (by decide +kernel) (by decide +kernel)
theorem mk_X2 : ((Jvm.Cond.instantiable "ShareStatistics$Secrecy" (4 : Nat))) ∈ allW := aw 123 (by decide +kernel) (by decide +kernel)
theorem im_X2_init : ((Jvm.Cond.instanceMethod ({ cls := "ShareStatistics$Secrecy", name := "<init>", desc := "()V" } : Jvm.MethodName))) ∈ allW := aw 125 (by decide +kernel) (by decide +kernel)
theorem ml_X2_Object_init : ((Jvm.Cond.methodLink "ShareStatistics$Secrecy" (3 : Nat) ({ cls := "java/lang/Object", name := "<init>", desc := "()V" } : Jvm.MethodName))) ∈ allW := aw 127 (by decide +kernel) (by decide +kernel)
theorem fl_X2_rowsOfArea : ((Jvm.Cond.fieldLink "ShareStatistics$Secrecy" (9 : Nat) "ShareStatistics$Secrecy" "rowsOfArea" "[I")) ∈ allW := aw 128 (by decide +kernel) (by decide +kernel)
theorem fl_X2_isJoined : ((Jvm.Cond.fieldLink "ShareStatistics$Secrecy" (15 : Nat) "ShareStatistics$Secrecy" "isJoined" "[Z")) ∈ allW := aw 129 (by decide +kernel) (by decide +kernel)
theorem fl_X2_lowestShown : ((Jvm.Cond.fieldLink "ShareStatistics$Secrecy" (19 : Nat) "ShareStatistics$Secrecy" "lowestShown" "I")) ∈ allW := aw 130 (by decide +kernel) (by decide +kernel)
theorem fl_X2_together : ((Jvm.Cond.fieldLink "ShareStatistics$Secrecy" (23 : Nat) "ShareStatistics$Secrecy" "together" "I")) ∈ allW := aw 131 (by decide +kernel) (by decide +kernel)
theorem ac_boolean : ((Jvm.Cond.arrayClass Jvm.ClassFile.FieldType.boolean)) ∈ allW := aw 141 (by decide +kernel) (by decide +kernel)
theorem fl_X4_definitions : ((Jvm.Cond.fieldLink "ShareStatistics" (10 : Nat) "ShareStatistics" "definitions" "LShareStatistics$Definitions;")) ∈ allW := aw 142 (by decide +kernel) (by decide +kernel)
theorem fl_X4_incidents : ((Jvm.Cond.fieldLink "ShareStatistics" (19 : Nat) "ShareStatistics" "incidents" "LShareStatistics$Incidents;")) ∈ allW := aw 143 (by decide +kernel) (by decide +kernel)
theorem fl_X4_trendCounts : ((Jvm.Cond.fieldLink "ShareStatistics" (26 : Nat) "ShareStatistics" "trendCounts" "LShareStatistics$Trend;")) ∈ allW := aw 144 (by decide +kernel) (by decide +kernel)
theorem fl_X4_secrecy : ((Jvm.Cond.fieldLink "ShareStatistics" (33 : Nat) "ShareStatistics" "secrecy" "LShareStatistics$Secrecy;")) ∈ allW := aw 145 (by decide +kernel) (by decide +kernel)
theorem fl_X4_peopleOfArea : ((Jvm.Cond.fieldLink "ShareStatistics" (37 : Nat) "ShareStatistics" "peopleOfArea" "[I")) ∈ allW := aw 146 (by decide +kernel) (by decide +kernel)
theorem fl_X4_askedFrom : ((Jvm.Cond.fieldLink "ShareStatistics" (41 : Nat) "ShareStatistics" "askedFrom" "I")) ∈ allW := aw 147 (by decide +kernel) (by decide +kernel)
theorem fl_X4_askedTo : ((Jvm.Cond.fieldLink "ShareStatistics" (45 : Nat) "ShareStatistics" "askedTo" "I")) ∈ allW := aw 148 (by decide +kernel) (by decide +kernel)
theorem fl_X4_askedKind : ((Jvm.Cond.fieldLink "ShareStatistics" (48 : Nat) "ShareStatistics" "askedKind" "I")) ∈ allW := aw 149 (by decide +kernel) (by decide +kernel)
theorem fl_X4_askedArea : ((Jvm.Cond.fieldLink "ShareStatistics" (51 : Nat) "ShareStatistics" "askedArea" "I")) ∈ allW := aw 150 (by decide +kernel) (by decide +kernel)
theorem ml_L_X4_splits : ((Jvm.Cond.methodLink "ShareStatisticsLaw" (112 : Nat) ({ cls := "ShareStatistics", name := "splits", desc := "()I" } : Jvm.MethodName))) ∈ allW := aw 170 (by decide +kernel) (by decide +kernel)
theorem im_X4_splits : ((Jvm.Cond.instanceMethod ({ cls := "ShareStatistics", name := "splits", desc := "()I" } : Jvm.MethodName))) ∈ allW := aw 171 (by decide +kernel) (by decide +kernel)
theorem se_X4_splits : ((Jvm.Cond.selects "ShareStatistics" ({ cls := "ShareStatistics", name := "splits", desc := "()I" } : Jvm.MethodName) ({ cls := "ShareStatistics", name := "splits", desc := "()I" } : Jvm.MethodName))) ∈ allW := aw 172 (by decide +kernel) (by decide +kernel)
theorem ml_X4_X0_changes : ((Jvm.Cond.methodLink "ShareStatistics" (117 : Nat) ({ cls := "ShareStatistics$Definitions", name := "changes", desc := "(II)I" } : Jvm.MethodName))) ∈ allW := aw 174 (by decide +kernel) (by decide +kernel)
theorem im_X0_changes : ((Jvm.Cond.instanceMethod ({ cls := "ShareStatistics$Definitions", name := "changes", desc := "(II)I" } : Jvm.MethodName))) ∈ allW := aw 175 (by decide +kernel) (by decide +kernel)
theorem se_X0_changes : ((Jvm.Cond.selects "ShareStatistics$Definitions" ({ cls := "ShareStatistics$Definitions", name := "changes", desc := "(II)I" } : Jvm.MethodName) ({ cls := "ShareStatistics$Definitions", name := "changes", desc := "(II)I" } : Jvm.MethodName))) ∈ allW := aw 176 (by decide +kernel) (by decide +kernel)
theorem ml_X0_X0_isLastOfItsDay : ((Jvm.Cond.methodLink "ShareStatistics$Definitions" (26 : Nat) ({ cls := "ShareStatistics$Definitions", name := "isLastOfItsDay", desc := "(I)Z" } : Jvm.MethodName))) ∈ allW := aw 178 (by decide +kernel) (by decide +kernel)
theorem im_X0_isLastOfItsDay : ((Jvm.Cond.instanceMethod ({ cls := "ShareStatistics$Definitions", name := "isLastOfItsDay", desc := "(I)Z" } : Jvm.MethodName))) ∈ allW := aw 180 (by decide +kernel) (by decide +kernel)
theorem ml_X0_X0_markOn : ((Jvm.Cond.methodLink "ShareStatistics$Definitions" (30 : Nat) ({ cls := "ShareStatistics$Definitions", name := "markOn", desc := "(I)I" } : Jvm.MethodName))) ∈ allW := aw 182 (by decide +kernel) (by decide +kernel)
theorem im_X0_markOn : ((Jvm.Cond.instanceMethod ({ cls := "ShareStatistics$Definitions", name := "markOn", desc := "(I)I" } : Jvm.MethodName))) ∈ allW := aw 183 (by decide +kernel) (by decide +kernel)
theorem se_X0_markOn : ((Jvm.Cond.selects "ShareStatistics$Definitions" ({ cls := "ShareStatistics$Definitions", name := "markOn", desc := "(I)I" } : Jvm.MethodName) ({ cls := "ShareStatistics$Definitions", name := "markOn", desc := "(I)I" } : Jvm.MethodName))) ∈ allW := aw 184 (by decide +kernel) (by decide +kernel)
theorem ml_L_X4_joined : ((Jvm.Cond.methodLink "ShareStatisticsLaw" (140 : Nat) ({ cls := "ShareStatistics", name := "joined", desc := "()I" } : Jvm.MethodName))) ∈ allW := aw 186 (by decide +kernel) (by decide +kernel)
theorem im_X4_joined : ((Jvm.Cond.instanceMethod ({ cls := "ShareStatistics", name := "joined", desc := "()I" } : Jvm.MethodName))) ∈ allW := aw 187 (by decide +kernel) (by decide +kernel)
theorem se_X4_joined : ((Jvm.Cond.selects "ShareStatistics" ({ cls := "ShareStatistics", name := "joined", desc := "()I" } : Jvm.MethodName) ({ cls := "ShareStatistics", name := "joined", desc := "()I" } : Jvm.MethodName))) ∈ allW := aw 188 (by decide +kernel) (by decide +kernel)
theorem ml_X4_X2_join : ((Jvm.Cond.methodLink "ShareStatistics" (157 : Nat) ({ cls := "ShareStatistics$Secrecy", name := "join", desc := "(LShareStatistics$Incidents;II)V" } : Jvm.MethodName))) ∈ allW := aw 190 (by decide +kernel) (by decide +kernel)
theorem im_X2_join : ((Jvm.Cond.instanceMethod ({ cls := "ShareStatistics$Secrecy", name := "join", desc := "(LShareStatistics$Incidents;II)V" } : Jvm.MethodName))) ∈ allW := aw 191 (by decide +kernel) (by decide +kernel)
theorem se_X2_join : ((Jvm.Cond.selects "ShareStatistics$Secrecy" ({ cls := "ShareStatistics$Secrecy", name := "join", desc := "(LShareStatistics$Incidents;II)V" } : Jvm.MethodName) ({ cls := "ShareStatistics$Secrecy", name := "join", desc := "(LShareStatistics$Incidents;II)V" } : Jvm.MethodName))) ∈ allW := aw 192 (by decide +kernel) (by decide +kernel)
theorem ml_X2_X1_number : ((Jvm.Cond.methodLink "ShareStatistics$Secrecy" (26 : Nat) ({ cls := "ShareStatistics$Incidents", name := "number", desc := "(IIII)I" } : Jvm.MethodName))) ∈ allW := aw 194 (by decide +kernel) (by decide +kernel)
theorem im_X1_number : ((Jvm.Cond.instanceMethod ({ cls := "ShareStatistics$Incidents", name := "number", desc := "(IIII)I" } : Jvm.MethodName))) ∈ allW := aw 195 (by decide +kernel) (by decide +kernel)
theorem se_X1_number : ((Jvm.Cond.selects "ShareStatistics$Incidents" ({ cls := "ShareStatistics$Incidents", name := "number", desc := "(IIII)I" } : Jvm.MethodName) ({ cls := "ShareStatistics$Incidents", name := "number", desc := "(IIII)I" } : Jvm.MethodName))) ∈ allW := aw 196 (by decide +kernel) (by decide +kernel)
theorem ml_X1_X1_isAsked : ((Jvm.Cond.methodLink "ShareStatistics$Incidents" (47 : Nat) ({ cls := "ShareStatistics$Incidents", name := "isAsked", desc := "(IIIII)Z" } : Jvm.MethodName))) ∈ allW := aw 198 (by decide +kernel) (by decide +kernel)
theorem im_X1_isAsked : ((Jvm.Cond.instanceMethod ({ cls := "ShareStatistics$Incidents", name := "isAsked", desc := "(IIIII)Z" } : Jvm.MethodName))) ∈ allW := aw 200 (by decide +kernel) (by decide +kernel)
theorem ml_X1_X1_isHidden : ((Jvm.Cond.methodLink "ShareStatistics$Incidents" (69 : Nat) ({ cls := "ShareStatistics$Incidents", name := "isHidden", desc := "(I)Z" } : Jvm.MethodName))) ∈ allW := aw 202 (by decide +kernel) (by decide +kernel)
theorem im_X1_isHidden : ((Jvm.Cond.instanceMethod ({ cls := "ShareStatistics$Incidents", name := "isHidden", desc := "(I)Z" } : Jvm.MethodName))) ∈ allW := aw 204 (by decide +kernel) (by decide +kernel)
theorem ml_X1_X1_isInSpan : ((Jvm.Cond.methodLink "ShareStatistics$Incidents" (72 : Nat) ({ cls := "ShareStatistics$Incidents", name := "isInSpan", desc := "(III)Z" } : Jvm.MethodName))) ∈ allW := aw 206 (by decide +kernel) (by decide +kernel)
theorem im_X1_isInSpan : ((Jvm.Cond.instanceMethod ({ cls := "ShareStatistics$Incidents", name := "isInSpan", desc := "(III)Z" } : Jvm.MethodName))) ∈ allW := aw 208 (by decide +kernel) (by decide +kernel)
theorem ml_X2_X1_hidden : ((Jvm.Cond.methodLink "ShareStatistics$Secrecy" (32 : Nat) ({ cls := "ShareStatistics$Incidents", name := "hidden", desc := "(II)I" } : Jvm.MethodName))) ∈ allW := aw 210 (by decide +kernel) (by decide +kernel)
theorem im_X1_hidden : ((Jvm.Cond.instanceMethod ({ cls := "ShareStatistics$Incidents", name := "hidden", desc := "(II)I" } : Jvm.MethodName))) ∈ allW := aw 211 (by decide +kernel) (by decide +kernel)
theorem se_X1_hidden : ((Jvm.Cond.selects "ShareStatistics$Incidents" ({ cls := "ShareStatistics$Incidents", name := "hidden", desc := "(II)I" } : Jvm.MethodName) ({ cls := "ShareStatistics$Incidents", name := "hidden", desc := "(II)I" } : Jvm.MethodName))) ∈ allW := aw 212 (by decide +kernel) (by decide +kernel)
theorem ml_X2_X2_joinMore : ((Jvm.Cond.methodLink "ShareStatistics$Secrecy" (36 : Nat) ({ cls := "ShareStatistics$Secrecy", name := "joinMore", desc := "()V" } : Jvm.MethodName))) ∈ allW := aw 214 (by decide +kernel) (by decide +kernel)
theorem im_X2_joinMore : ((Jvm.Cond.instanceMethod ({ cls := "ShareStatistics$Secrecy", name := "joinMore", desc := "()V" } : Jvm.MethodName))) ∈ allW := aw 216 (by decide +kernel) (by decide +kernel)
theorem ml_X2_X2_areaOfFewest : ((Jvm.Cond.methodLink "ShareStatistics$Secrecy" (39 : Nat) ({ cls := "ShareStatistics$Secrecy", name := "areaOfFewest", desc := "()I" } : Jvm.MethodName))) ∈ allW := aw 218 (by decide +kernel) (by decide +kernel)
theorem im_X2_areaOfFewest : ((Jvm.Cond.instanceMethod ({ cls := "ShareStatistics$Secrecy", name := "areaOfFewest", desc := "()I" } : Jvm.MethodName))) ∈ allW := aw 220 (by decide +kernel) (by decide +kernel)
theorem ml_X4_X2_rowsTogether : ((Jvm.Cond.methodLink "ShareStatistics" (164 : Nat) ({ cls := "ShareStatistics$Secrecy", name := "rowsTogether", desc := "()I" } : Jvm.MethodName))) ∈ allW := aw 222 (by decide +kernel) (by decide +kernel)
theorem im_X2_rowsTogether : ((Jvm.Cond.instanceMethod ({ cls := "ShareStatistics$Secrecy", name := "rowsTogether", desc := "()I" } : Jvm.MethodName))) ∈ allW := aw 223 (by decide +kernel) (by decide +kernel)
theorem se_X2_rowsTogether : ((Jvm.Cond.selects "ShareStatistics$Secrecy" ({ cls := "ShareStatistics$Secrecy", name := "rowsTogether", desc := "()I" } : Jvm.MethodName) ({ cls := "ShareStatistics$Secrecy", name := "rowsTogether", desc := "()I" } : Jvm.MethodName))) ∈ allW := aw 224 (by decide +kernel) (by decide +kernel)
theorem ml_L_L_row : ((Jvm.Cond.methodLink "ShareStatisticsLaw" (77 : Nat) ({ cls := "ShareStatisticsLaw", name := "row", desc := "(LShareStatistics;IIIIII[J)I" } : Jvm.MethodName))) ∈ allW := aw 226 (by decide +kernel) (by decide +kernel)
theorem sm_L_row : ((Jvm.Cond.static ({ cls := "ShareStatisticsLaw", name := "row", desc := "(LShareStatistics;IIIIII[J)I" } : Jvm.MethodName))) ∈ allW := aw 227 (by decide +kernel) (by decide +kernel)
theorem cl_L_IllegalArgumentException : ((Jvm.Cond.classLink "ShareStatisticsLaw" (13 : Nat) "java/lang/IllegalArgumentException")) ∈ allW := aw 229 (by decide +kernel) (by decide +kernel)
theorem cl_L_IndexOutOfBoundsException : ((Jvm.Cond.classLink "ShareStatisticsLaw" (15 : Nat) "java/lang/IndexOutOfBoundsException")) ∈ allW := aw 230 (by decide +kernel) (by decide +kernel)
theorem cl_L_UnsupportedOperationException : ((Jvm.Cond.classLink "ShareStatisticsLaw" (17 : Nat) "java/lang/UnsupportedOperationException")) ∈ allW := aw 231 (by decide +kernel) (by decide +kernel)
theorem ml_L_X4_row : ((Jvm.Cond.methodLink "ShareStatisticsLaw" (7 : Nat) ({ cls := "ShareStatistics", name := "row", desc := "(IIIIII)I" } : Jvm.MethodName))) ∈ allW := aw 232 (by decide +kernel) (by decide +kernel)
theorem im_X4_row : ((Jvm.Cond.instanceMethod ({ cls := "ShareStatistics", name := "row", desc := "(IIIIII)I" } : Jvm.MethodName))) ∈ allW := aw 233 (by decide +kernel) (by decide +kernel)
theorem se_X4_row : ((Jvm.Cond.selects "ShareStatistics" ({ cls := "ShareStatistics", name := "row", desc := "(IIIIII)I" } : Jvm.MethodName) ({ cls := "ShareStatistics", name := "row", desc := "(IIIIII)I" } : Jvm.MethodName))) ∈ allW := aw 234 (by decide +kernel) (by decide +kernel)
theorem ml_X4_X4_refuseUnknown : ((Jvm.Cond.methodLink "ShareStatistics" (54 : Nat) ({ cls := "ShareStatistics", name := "refuseUnknown", desc := "(II)V" } : Jvm.MethodName))) ∈ allW := aw 236 (by decide +kernel) (by decide +kernel)
theorem sm_X4_refuseUnknown : ((Jvm.Cond.static ({ cls := "ShareStatistics", name := "refuseUnknown", desc := "(II)V" } : Jvm.MethodName))) ∈ allW := aw 237 (by decide +kernel) (by decide +kernel)
theorem cl_X4_IllegalArgumentException : ((Jvm.Cond.classLink "ShareStatistics" (177 : Nat) "java/lang/IllegalArgumentException")) ∈ allW := aw 239 (by decide +kernel) (by decide +kernel)
theorem mk_IllegalArgumentException : ((Jvm.Cond.instantiable "java/lang/IllegalArgumentException" (6 : Nat))) ∈ allW := aw 240 (by decide +kernel) (by decide +kernel)
theorem mk_Throwable : ((Jvm.Cond.instantiable "java/lang/Throwable" (6 : Nat))) ∈ allW := aw 279 (by decide +kernel) (by decide +kernel)
theorem ml_X4_IllegalArgumentException_init : ((Jvm.Cond.methodLink "ShareStatistics" (181 : Nat) ({ cls := "java/lang/IllegalArgumentException", name := "<init>", desc := "(Ljava/lang/String;)V" } : Jvm.MethodName))) ∈ allW := aw 282 (by decide +kernel) (by decide +kernel)
theorem ac_byte : ((Jvm.Cond.arrayClass Jvm.ClassFile.FieldType.byte)) ∈ allW := aw 307 (by decide +kernel) (by decide +kernel)
theorem ml_X4_X4_refuseOutside : ((Jvm.Cond.methodLink "ShareStatistics" (58 : Nat) ({ cls := "ShareStatistics", name := "refuseOutside", desc := "(III)V" } : Jvm.MethodName))) ∈ allW := aw 308 (by decide +kernel) (by decide +kernel)
theorem sm_X4_refuseOutside : ((Jvm.Cond.static ({ cls := "ShareStatistics", name := "refuseOutside", desc := "(III)V" } : Jvm.MethodName))) ∈ allW := aw 309 (by decide +kernel) (by decide +kernel)
theorem cl_X4_IndexOutOfBoundsException : ((Jvm.Cond.classLink "ShareStatistics" (182 : Nat) "java/lang/IndexOutOfBoundsException")) ∈ allW := aw 311 (by decide +kernel) (by decide +kernel)
theorem mk_IndexOutOfBoundsException : ((Jvm.Cond.instantiable "java/lang/IndexOutOfBoundsException" (6 : Nat))) ∈ allW := aw 312 (by decide +kernel) (by decide +kernel)
theorem ml_X4_IndexOutOfBoundsException_init : ((Jvm.Cond.methodLink "ShareStatistics" (186 : Nat) ({ cls := "java/lang/IndexOutOfBoundsException", name := "<init>", desc := "(Ljava/lang/String;)V" } : Jvm.MethodName))) ∈ allW := aw 321 (by decide +kernel) (by decide +kernel)
theorem ml_X4_X1_isFull : ((Jvm.Cond.methodLink "ShareStatistics" (62 : Nat) ({ cls := "ShareStatistics$Incidents", name := "isFull", desc := "()Z" } : Jvm.MethodName))) ∈ allW := aw 327 (by decide +kernel) (by decide +kernel)
theorem im_X1_isFull : ((Jvm.Cond.instanceMethod ({ cls := "ShareStatistics$Incidents", name := "isFull", desc := "()Z" } : Jvm.MethodName))) ∈ allW := aw 328 (by decide +kernel) (by decide +kernel)
theorem se_X1_isFull : ((Jvm.Cond.selects "ShareStatistics$Incidents" ({ cls := "ShareStatistics$Incidents", name := "isFull", desc := "()Z" } : Jvm.MethodName) ({ cls := "ShareStatistics$Incidents", name := "isFull", desc := "()Z" } : Jvm.MethodName))) ∈ allW := aw 329 (by decide +kernel) (by decide +kernel)
theorem cl_X4_UnsupportedOperationException : ((Jvm.Cond.classLink "ShareStatistics" (66 : Nat) "java/lang/UnsupportedOperationException")) ∈ allW := aw 331 (by decide +kernel) (by decide +kernel)
theorem mk_UnsupportedOperationException : ((Jvm.Cond.instantiable "java/lang/UnsupportedOperationException" (6 : Nat))) ∈ allW := aw 332 (by decide +kernel) (by decide +kernel)
theorem ml_X4_UnsupportedOperationException_init : ((Jvm.Cond.methodLink "ShareStatistics" (70 : Nat) ({ cls := "java/lang/UnsupportedOperationException", name := "<init>", desc := "(Ljava/lang/String;)V" } : Jvm.MethodName))) ∈ allW := aw 341 (by decide +kernel) (by decide +kernel)
theorem ml_X4_X1_add : ((Jvm.Cond.methodLink "ShareStatistics" (73 : Nat) ({ cls := "ShareStatistics$Incidents", name := "add", desc := "(IIIIII)I" } : Jvm.MethodName))) ∈ allW := aw 347 (by decide +kernel) (by decide +kernel)
theorem im_X1_add : ((Jvm.Cond.instanceMethod ({ cls := "ShareStatistics$Incidents", name := "add", desc := "(IIIIII)I" } : Jvm.MethodName))) ∈ allW := aw 348 (by decide +kernel) (by decide +kernel)
theorem se_X1_add : ((Jvm.Cond.selects "ShareStatistics$Incidents" ({ cls := "ShareStatistics$Incidents", name := "add", desc := "(IIIIII)I" } : Jvm.MethodName) ({ cls := "ShareStatistics$Incidents", name := "add", desc := "(IIIIII)I" } : Jvm.MethodName))) ∈ allW := aw 349 (by decide +kernel) (by decide +kernel)
theorem ml_X1_X1_isFull : ((Jvm.Cond.methodLink "ShareStatistics$Incidents" (43 : Nat) ({ cls := "ShareStatistics$Incidents", name := "isFull", desc := "()Z" } : Jvm.MethodName))) ∈ allW := aw 351 (by decide +kernel) (by decide +kernel)
theorem ml_L_L_values : ((Jvm.Cond.methodLink "ShareStatisticsLaw" (87 : Nat) ({ cls := "ShareStatisticsLaw", name := "values", desc := "(LShareStatistics;III)I" } : Jvm.MethodName))) ∈ allW := aw 352 (by decide +kernel) (by decide +kernel)
theorem sm_L_values : ((Jvm.Cond.static ({ cls := "ShareStatisticsLaw", name := "values", desc := "(LShareStatistics;III)I" } : Jvm.MethodName))) ∈ allW := aw 353 (by decide +kernel) (by decide +kernel)
theorem ml_L_X4_values : ((Jvm.Cond.methodLink "ShareStatisticsLaw" (19 : Nat) ({ cls := "ShareStatistics", name := "values", desc := "(III)V" } : Jvm.MethodName))) ∈ allW := aw 355 (by decide +kernel) (by decide +kernel)
theorem im_X4_values : ((Jvm.Cond.instanceMethod ({ cls := "ShareStatistics", name := "values", desc := "(III)V" } : Jvm.MethodName))) ∈ allW := aw 356 (by decide +kernel) (by decide +kernel)
theorem se_X4_values : ((Jvm.Cond.selects "ShareStatistics" ({ cls := "ShareStatistics", name := "values", desc := "(III)V" } : Jvm.MethodName) ({ cls := "ShareStatistics", name := "values", desc := "(III)V" } : Jvm.MethodName))) ∈ allW := aw 357 (by decide +kernel) (by decide +kernel)
theorem ml_X4_X1_size : ((Jvm.Cond.methodLink "ShareStatistics" (77 : Nat) ({ cls := "ShareStatistics$Incidents", name := "size", desc := "()I" } : Jvm.MethodName))) ∈ allW := aw 359 (by decide +kernel) (by decide +kernel)
theorem im_X1_size : ((Jvm.Cond.instanceMethod ({ cls := "ShareStatistics$Incidents", name := "size", desc := "()I" } : Jvm.MethodName))) ∈ allW := aw 360 (by decide +kernel) (by decide +kernel)
theorem se_X1_size : ((Jvm.Cond.selects "ShareStatistics$Incidents" ({ cls := "ShareStatistics$Incidents", name := "size", desc := "()I" } : Jvm.MethodName) ({ cls := "ShareStatistics$Incidents", name := "size", desc := "()I" } : Jvm.MethodName))) ∈ allW := aw 361 (by decide +kernel) (by decide +kernel)
theorem ml_X4_X1_setSeconds : ((Jvm.Cond.methodLink "ShareStatistics" (81 : Nat) ({ cls := "ShareStatistics$Incidents", name := "setSeconds", desc := "(III)V" } : Jvm.MethodName))) ∈ allW := aw 363 (by decide +kernel) (by decide +kernel)
theorem im_X1_setSeconds : ((Jvm.Cond.instanceMethod ({ cls := "ShareStatistics$Incidents", name := "setSeconds", desc := "(III)V" } : Jvm.MethodName))) ∈ allW := aw 364 (by decide +kernel) (by decide +kernel)
theorem se_X1_setSeconds : ((Jvm.Cond.selects "ShareStatistics$Incidents" ({ cls := "ShareStatistics$Incidents", name := "setSeconds", desc := "(III)V" } : Jvm.MethodName) ({ cls := "ShareStatistics$Incidents", name := "setSeconds", desc := "(III)V" } : Jvm.MethodName))) ∈ allW := aw 365 (by decide +kernel) (by decide +kernel)
theorem ml_L_L_define : ((Jvm.Cond.methodLink "ShareStatisticsLaw" (91 : Nat) ({ cls := "ShareStatisticsLaw", name := "define", desc := "(LShareStatistics;II[J)I" } : Jvm.MethodName))) ∈ allW := aw 367 (by decide +kernel) (by decide +kernel)
theorem sm_L_define : ((Jvm.Cond.static ({ cls := "ShareStatisticsLaw", name := "define", desc := "(LShareStatistics;II[J)I" } : Jvm.MethodName))) ∈ allW := aw 368 (by decide +kernel) (by decide +kernel)
theorem ml_L_X4_define : ((Jvm.Cond.methodLink "ShareStatisticsLaw" (23 : Nat) ({ cls := "ShareStatistics", name := "define", desc := "(II)I" } : Jvm.MethodName))) ∈ allW := aw 370 (by decide +kernel) (by decide +kernel)
theorem im_X4_define : ((Jvm.Cond.instanceMethod ({ cls := "ShareStatistics", name := "define", desc := "(II)I" } : Jvm.MethodName))) ∈ allW := aw 371 (by decide +kernel) (by decide +kernel)
theorem se_X4_define : ((Jvm.Cond.selects "ShareStatistics" ({ cls := "ShareStatistics", name := "define", desc := "(II)I" } : Jvm.MethodName) ({ cls := "ShareStatistics", name := "define", desc := "(II)I" } : Jvm.MethodName))) ∈ allW := aw 372 (by decide +kernel) (by decide +kernel)
theorem ml_X4_X0_isFull : ((Jvm.Cond.methodLink "ShareStatistics" (84 : Nat) ({ cls := "ShareStatistics$Definitions", name := "isFull", desc := "()Z" } : Jvm.MethodName))) ∈ allW := aw 374 (by decide +kernel) (by decide +kernel)
theorem im_X0_isFull : ((Jvm.Cond.instanceMethod ({ cls := "ShareStatistics$Definitions", name := "isFull", desc := "()Z" } : Jvm.MethodName))) ∈ allW := aw 375 (by decide +kernel) (by decide +kernel)
theorem se_X0_isFull : ((Jvm.Cond.selects "ShareStatistics$Definitions" ({ cls := "ShareStatistics$Definitions", name := "isFull", desc := "()Z" } : Jvm.MethodName) ({ cls := "ShareStatistics$Definitions", name := "isFull", desc := "()Z" } : Jvm.MethodName))) ∈ allW := aw 376 (by decide +kernel) (by decide +kernel)
theorem ml_X4_X0_add : ((Jvm.Cond.methodLink "ShareStatistics" (87 : Nat) ({ cls := "ShareStatistics$Definitions", name := "add", desc := "(II)I" } : Jvm.MethodName))) ∈ allW := aw 379 (by decide +kernel) (by decide +kernel)
theorem im_X0_add : ((Jvm.Cond.instanceMethod ({ cls := "ShareStatistics$Definitions", name := "add", desc := "(II)I" } : Jvm.MethodName))) ∈ allW := aw 380 (by decide +kernel) (by decide +kernel)
theorem se_X0_add : ((Jvm.Cond.selects "ShareStatistics$Definitions" ({ cls := "ShareStatistics$Definitions", name := "add", desc := "(II)I" } : Jvm.MethodName) ({ cls := "ShareStatistics$Definitions", name := "add", desc := "(II)I" } : Jvm.MethodName))) ∈ allW := aw 381 (by decide +kernel) (by decide +kernel)
theorem ml_X0_X0_isFull : ((Jvm.Cond.methodLink "ShareStatistics$Definitions" (22 : Nat) ({ cls := "ShareStatistics$Definitions", name := "isFull", desc := "()Z" } : Jvm.MethodName))) ∈ allW := aw 383 (by decide +kernel) (by decide +kernel)
theorem ml_L_L_ask : ((Jvm.Cond.methodLink "ShareStatisticsLaw" (95 : Nat) ({ cls := "ShareStatisticsLaw", name := "ask", desc := "(LShareStatistics;IIII)I" } : Jvm.MethodName))) ∈ allW := aw 384 (by decide +kernel) (by decide +kernel)
theorem sm_L_ask : ((Jvm.Cond.static ({ cls := "ShareStatisticsLaw", name := "ask", desc := "(LShareStatistics;IIII)I" } : Jvm.MethodName))) ∈ allW := aw 385 (by decide +kernel) (by decide +kernel)
theorem ml_L_X4_ask : ((Jvm.Cond.methodLink "ShareStatisticsLaw" (27 : Nat) ({ cls := "ShareStatistics", name := "ask", desc := "(IIII)V" } : Jvm.MethodName))) ∈ allW := aw 387 (by decide +kernel) (by decide +kernel)
theorem im_X4_ask : ((Jvm.Cond.instanceMethod ({ cls := "ShareStatistics", name := "ask", desc := "(IIII)V" } : Jvm.MethodName))) ∈ allW := aw 388 (by decide +kernel) (by decide +kernel)
theorem se_X4_ask : ((Jvm.Cond.selects "ShareStatistics" ({ cls := "ShareStatistics", name := "ask", desc := "(IIII)V" } : Jvm.MethodName) ({ cls := "ShareStatistics", name := "ask", desc := "(IIII)V" } : Jvm.MethodName))) ∈ allW := aw 389 (by decide +kernel) (by decide +kernel)
theorem ml_X4_X4_refuseNoSpan : ((Jvm.Cond.methodLink "ShareStatistics" (90 : Nat) ({ cls := "ShareStatistics", name := "refuseNoSpan", desc := "(II)V" } : Jvm.MethodName))) ∈ allW := aw 391 (by decide +kernel) (by decide +kernel)
theorem sm_X4_refuseNoSpan : ((Jvm.Cond.static ({ cls := "ShareStatistics", name := "refuseNoSpan", desc := "(II)V" } : Jvm.MethodName))) ∈ allW := aw 392 (by decide +kernel) (by decide +kernel)
theorem ml_L_L_count : ((Jvm.Cond.methodLink "ShareStatisticsLaw" (99 : Nat) ({ cls := "ShareStatisticsLaw", name := "count", desc := "(LShareStatistics;I[J)I" } : Jvm.MethodName))) ∈ allW := aw 394 (by decide +kernel) (by decide +kernel)
theorem sm_L_count : ((Jvm.Cond.static ({ cls := "ShareStatisticsLaw", name := "count", desc := "(LShareStatistics;I[J)I" } : Jvm.MethodName))) ∈ allW := aw 395 (by decide +kernel) (by decide +kernel)
theorem ml_L_X4_count : ((Jvm.Cond.methodLink "ShareStatisticsLaw" (31 : Nat) ({ cls := "ShareStatistics", name := "count", desc := "(I)I" } : Jvm.MethodName))) ∈ allW := aw 397 (by decide +kernel) (by decide +kernel)
theorem im_X4_count : ((Jvm.Cond.instanceMethod ({ cls := "ShareStatistics", name := "count", desc := "(I)I" } : Jvm.MethodName))) ∈ allW := aw 398 (by decide +kernel) (by decide +kernel)
theorem se_X4_count : ((Jvm.Cond.selects "ShareStatistics" ({ cls := "ShareStatistics", name := "count", desc := "(I)I" } : Jvm.MethodName) ({ cls := "ShareStatistics", name := "count", desc := "(I)I" } : Jvm.MethodName))) ∈ allW := aw 399 (by decide +kernel) (by decide +kernel)
theorem ml_X4_X4_askedTotal : ((Jvm.Cond.methodLink "ShareStatistics" (93 : Nat) ({ cls := "ShareStatistics", name := "askedTotal", desc := "(III)I" } : Jvm.MethodName))) ∈ allW := aw 401 (by decide +kernel) (by decide +kernel)
theorem im_X4_askedTotal : ((Jvm.Cond.instanceMethod ({ cls := "ShareStatistics", name := "askedTotal", desc := "(III)I" } : Jvm.MethodName))) ∈ allW := aw 403 (by decide +kernel) (by decide +kernel)
theorem ml_X4_X1_total : ((Jvm.Cond.methodLink "ShareStatistics" (173 : Nat) ({ cls := "ShareStatistics$Incidents", name := "total", desc := "(ILShareStatistics$Definitions;IIII)I" } : Jvm.MethodName))) ∈ allW := aw 405 (by decide +kernel) (by decide +kernel)
theorem im_X1_total : ((Jvm.Cond.instanceMethod ({ cls := "ShareStatistics$Incidents", name := "total", desc := "(ILShareStatistics$Definitions;IIII)I" } : Jvm.MethodName))) ∈ allW := aw 406 (by decide +kernel) (by decide +kernel)
theorem se_X1_total : ((Jvm.Cond.selects "ShareStatistics$Incidents" ({ cls := "ShareStatistics$Incidents", name := "total", desc := "(ILShareStatistics$Definitions;IIII)I" } : Jvm.MethodName) ({ cls := "ShareStatistics$Incidents", name := "total", desc := "(ILShareStatistics$Definitions;IIII)I" } : Jvm.MethodName))) ∈ allW := aw 407 (by decide +kernel) (by decide +kernel)
theorem ml_X1_X0_markOn : ((Jvm.Cond.methodLink "ShareStatistics$Incidents" (51 : Nat) ({ cls := "ShareStatistics$Definitions", name := "markOn", desc := "(I)I" } : Jvm.MethodName))) ∈ allW := aw 409 (by decide +kernel) (by decide +kernel)
theorem ml_X1_X1_amount : ((Jvm.Cond.methodLink "ShareStatistics$Incidents" (57 : Nat) ({ cls := "ShareStatistics$Incidents", name := "amount", desc := "(III)I" } : Jvm.MethodName))) ∈ allW := aw 410 (by decide +kernel) (by decide +kernel)
theorem im_X1_amount : ((Jvm.Cond.instanceMethod ({ cls := "ShareStatistics$Incidents", name := "amount", desc := "(III)I" } : Jvm.MethodName))) ∈ allW := aw 412 (by decide +kernel) (by decide +kernel)
theorem ml_X1_X1_isWithin : ((Jvm.Cond.methodLink "ShareStatistics$Incidents" (83 : Nat) ({ cls := "ShareStatistics$Incidents", name := "isWithin", desc := "(II)Z" } : Jvm.MethodName))) ∈ allW := aw 414 (by decide +kernel) (by decide +kernel)
theorem im_X1_isWithin : ((Jvm.Cond.instanceMethod ({ cls := "ShareStatistics$Incidents", name := "isWithin", desc := "(II)Z" } : Jvm.MethodName))) ∈ allW := aw 416 (by decide +kernel) (by decide +kernel)
theorem ml_X1_X1_isWithout : ((Jvm.Cond.methodLink "ShareStatistics$Incidents" (87 : Nat) ({ cls := "ShareStatistics$Incidents", name := "isWithout", desc := "(II)Z" } : Jvm.MethodName))) ∈ allW := aw 418 (by decide +kernel) (by decide +kernel)
theorem im_X1_isWithout : ((Jvm.Cond.instanceMethod ({ cls := "ShareStatistics$Incidents", name := "isWithout", desc := "(II)Z" } : Jvm.MethodName))) ∈ allW := aw 420 (by decide +kernel) (by decide +kernel)
theorem ml_X1_X1_hasBothValues : ((Jvm.Cond.methodLink "ShareStatistics$Incidents" (61 : Nat) ({ cls := "ShareStatistics$Incidents", name := "hasBothValues", desc := "(I)Z" } : Jvm.MethodName))) ∈ allW := aw 422 (by decide +kernel) (by decide +kernel)
theorem im_X1_hasBothValues : ((Jvm.Cond.instanceMethod ({ cls := "ShareStatistics$Incidents", name := "hasBothValues", desc := "(I)Z" } : Jvm.MethodName))) ∈ allW := aw 424 (by decide +kernel) (by decide +kernel)
theorem ml_X1_X1_secondsOf : ((Jvm.Cond.methodLink "ShareStatistics$Incidents" (80 : Nat) ({ cls := "ShareStatistics$Incidents", name := "secondsOf", desc := "(I)I" } : Jvm.MethodName))) ∈ allW := aw 426 (by decide +kernel) (by decide +kernel)
theorem sm_X1_secondsOf : ((Jvm.Cond.static ({ cls := "ShareStatistics$Incidents", name := "secondsOf", desc := "(I)I" } : Jvm.MethodName))) ∈ allW := aw 427 (by decide +kernel) (by decide +kernel)
theorem ml_L_L_hour : ((Jvm.Cond.methodLink "ShareStatisticsLaw" (103 : Nat) ({ cls := "ShareStatisticsLaw", name := "hour", desc := "(LShareStatistics;I[J)I" } : Jvm.MethodName))) ∈ allW := aw 429 (by decide +kernel) (by decide +kernel)
theorem sm_L_hour : ((Jvm.Cond.static ({ cls := "ShareStatisticsLaw", name := "hour", desc := "(LShareStatistics;I[J)I" } : Jvm.MethodName))) ∈ allW := aw 430 (by decide +kernel) (by decide +kernel)
theorem ml_L_X4_hour : ((Jvm.Cond.methodLink "ShareStatisticsLaw" (35 : Nat) ({ cls := "ShareStatistics", name := "hour", desc := "(I)I" } : Jvm.MethodName))) ∈ allW := aw 432 (by decide +kernel) (by decide +kernel)
theorem im_X4_hour : ((Jvm.Cond.instanceMethod ({ cls := "ShareStatistics", name := "hour", desc := "(I)I" } : Jvm.MethodName))) ∈ allW := aw 433 (by decide +kernel) (by decide +kernel)
theorem se_X4_hour : ((Jvm.Cond.selects "ShareStatistics" ({ cls := "ShareStatistics", name := "hour", desc := "(I)I" } : Jvm.MethodName) ({ cls := "ShareStatistics", name := "hour", desc := "(I)I" } : Jvm.MethodName))) ∈ allW := aw 434 (by decide +kernel) (by decide +kernel)
theorem ml_X4_X1_inHour : ((Jvm.Cond.methodLink "ShareStatistics" (97 : Nat) ({ cls := "ShareStatistics$Incidents", name := "inHour", desc := "(IIIII)I" } : Jvm.MethodName))) ∈ allW := aw 436 (by decide +kernel) (by decide +kernel)
theorem im_X1_inHour : ((Jvm.Cond.instanceMethod ({ cls := "ShareStatistics$Incidents", name := "inHour", desc := "(IIIII)I" } : Jvm.MethodName))) ∈ allW := aw 437 (by decide +kernel) (by decide +kernel)
theorem se_X1_inHour : ((Jvm.Cond.selects "ShareStatistics$Incidents" ({ cls := "ShareStatistics$Incidents", name := "inHour", desc := "(IIIII)I" } : Jvm.MethodName) ({ cls := "ShareStatistics$Incidents", name := "inHour", desc := "(IIIII)I" } : Jvm.MethodName))) ∈ allW := aw 438 (by decide +kernel) (by decide +kernel)
theorem ml_L_L_share : ((Jvm.Cond.methodLink "ShareStatisticsLaw" (106 : Nat) ({ cls := "ShareStatisticsLaw", name := "share", desc := "(LShareStatistics;I[J)I" } : Jvm.MethodName))) ∈ allW := aw 440 (by decide +kernel) (by decide +kernel)
theorem sm_L_share : ((Jvm.Cond.static ({ cls := "ShareStatisticsLaw", name := "share", desc := "(LShareStatistics;I[J)I" } : Jvm.MethodName))) ∈ allW := aw 441 (by decide +kernel) (by decide +kernel)
theorem cl_L_ArithmeticException : ((Jvm.Cond.classLink "ShareStatisticsLaw" (41 : Nat) "java/lang/ArithmeticException")) ∈ allW := aw 443 (by decide +kernel) (by decide +kernel)
theorem ml_L_X4_share : ((Jvm.Cond.methodLink "ShareStatisticsLaw" (38 : Nat) ({ cls := "ShareStatistics", name := "share", desc := "(I)I" } : Jvm.MethodName))) ∈ allW := aw 444 (by decide +kernel) (by decide +kernel)
theorem im_X4_share : ((Jvm.Cond.instanceMethod ({ cls := "ShareStatistics", name := "share", desc := "(I)I" } : Jvm.MethodName))) ∈ allW := aw 445 (by decide +kernel) (by decide +kernel)
theorem se_X4_share : ((Jvm.Cond.selects "ShareStatistics" ({ cls := "ShareStatistics", name := "share", desc := "(I)I" } : Jvm.MethodName) ({ cls := "ShareStatistics", name := "share", desc := "(I)I" } : Jvm.MethodName))) ∈ allW := aw 446 (by decide +kernel) (by decide +kernel)
theorem ml_X4_X4_rowsWithin : ((Jvm.Cond.methodLink "ShareStatistics" (101 : Nat) ({ cls := "ShareStatistics", name := "rowsWithin", desc := "(II)I" } : Jvm.MethodName))) ∈ allW := aw 448 (by decide +kernel) (by decide +kernel)
theorem im_X4_rowsWithin : ((Jvm.Cond.instanceMethod ({ cls := "ShareStatistics", name := "rowsWithin", desc := "(II)I" } : Jvm.MethodName))) ∈ allW := aw 450 (by decide +kernel) (by decide +kernel)
theorem ml_X4_X4_rowsNotWithout : ((Jvm.Cond.methodLink "ShareStatistics" (104 : Nat) ({ cls := "ShareStatistics", name := "rowsNotWithout", desc := "(II)I" } : Jvm.MethodName))) ∈ allW := aw 452 (by decide +kernel) (by decide +kernel)
theorem im_X4_rowsNotWithout : ((Jvm.Cond.instanceMethod ({ cls := "ShareStatistics", name := "rowsNotWithout", desc := "(II)I" } : Jvm.MethodName))) ∈ allW := aw 454 (by decide +kernel) (by decide +kernel)
theorem ml_X4_X4_refuseNoShare : ((Jvm.Cond.methodLink "ShareStatistics" (107 : Nat) ({ cls := "ShareStatistics", name := "refuseNoShare", desc := "(I)V" } : Jvm.MethodName))) ∈ allW := aw 456 (by decide +kernel) (by decide +kernel)
theorem sm_X4_refuseNoShare : ((Jvm.Cond.static ({ cls := "ShareStatistics", name := "refuseNoShare", desc := "(I)V" } : Jvm.MethodName))) ∈ allW := aw 457 (by decide +kernel) (by decide +kernel)
theorem cl_X4_ArithmeticException : ((Jvm.Cond.classLink "ShareStatistics" (146 : Nat) "java/lang/ArithmeticException")) ∈ allW := aw 459 (by decide +kernel) (by decide +kernel)
theorem mk_ArithmeticException : ((Jvm.Cond.instantiable "java/lang/ArithmeticException" (6 : Nat))) ∈ allW := aw 460 (by decide +kernel) (by decide +kernel)
theorem ml_X4_ArithmeticException_init : ((Jvm.Cond.methodLink "ShareStatistics" (150 : Nat) ({ cls := "java/lang/ArithmeticException", name := "<init>", desc := "(Ljava/lang/String;)V" } : Jvm.MethodName))) ∈ allW := aw 469 (by decide +kernel) (by decide +kernel)
theorem ml_X4_X4_inLowestTerms : ((Jvm.Cond.methodLink "ShareStatistics" (111 : Nat) ({ cls := "ShareStatistics", name := "inLowestTerms", desc := "(III)I" } : Jvm.MethodName))) ∈ allW := aw 475 (by decide +kernel) (by decide +kernel)
theorem sm_X4_inLowestTerms : ((Jvm.Cond.static ({ cls := "ShareStatistics", name := "inLowestTerms", desc := "(III)I" } : Jvm.MethodName))) ∈ allW := aw 476 (by decide +kernel) (by decide +kernel)
theorem ml_X4_X4_commonDivisor : ((Jvm.Cond.methodLink "ShareStatistics" (189 : Nat) ({ cls := "ShareStatistics", name := "commonDivisor", desc := "(II)I" } : Jvm.MethodName))) ∈ allW := aw 478 (by decide +kernel) (by decide +kernel)
theorem sm_X4_commonDivisor : ((Jvm.Cond.static ({ cls := "ShareStatistics", name := "commonDivisor", desc := "(II)I" } : Jvm.MethodName))) ∈ allW := aw 479 (by decide +kernel) (by decide +kernel)
theorem ml_L_L_placed : ((Jvm.Cond.methodLink "ShareStatisticsLaw" (109 : Nat) ({ cls := "ShareStatisticsLaw", name := "placed", desc := "(LShareStatistics;I[J)I" } : Jvm.MethodName))) ∈ allW := aw 481 (by decide +kernel) (by decide +kernel)
theorem sm_L_placed : ((Jvm.Cond.static ({ cls := "ShareStatisticsLaw", name := "placed", desc := "(LShareStatistics;I[J)I" } : Jvm.MethodName))) ∈ allW := aw 482 (by decide +kernel) (by decide +kernel)
theorem ml_L_X4_placed : ((Jvm.Cond.methodLink "ShareStatisticsLaw" (43 : Nat) ({ cls := "ShareStatistics", name := "placed", desc := "(I)I" } : Jvm.MethodName))) ∈ allW := aw 484 (by decide +kernel) (by decide +kernel)
theorem im_X4_placed : ((Jvm.Cond.instanceMethod ({ cls := "ShareStatistics", name := "placed", desc := "(I)I" } : Jvm.MethodName))) ∈ allW := aw 485 (by decide +kernel) (by decide +kernel)
theorem se_X4_placed : ((Jvm.Cond.selects "ShareStatistics" ({ cls := "ShareStatistics", name := "placed", desc := "(I)I" } : Jvm.MethodName) ({ cls := "ShareStatistics", name := "placed", desc := "(I)I" } : Jvm.MethodName))) ∈ allW := aw 486 (by decide +kernel) (by decide +kernel)
theorem ml_X4_X1_sumAtPlace : ((Jvm.Cond.methodLink "ShareStatistics" (114 : Nat) ({ cls := "ShareStatistics$Incidents", name := "sumAtPlace", desc := "(IIIII)I" } : Jvm.MethodName))) ∈ allW := aw 488 (by decide +kernel) (by decide +kernel)
theorem im_X1_sumAtPlace : ((Jvm.Cond.instanceMethod ({ cls := "ShareStatistics$Incidents", name := "sumAtPlace", desc := "(IIIII)I" } : Jvm.MethodName))) ∈ allW := aw 489 (by decide +kernel) (by decide +kernel)
theorem se_X1_sumAtPlace : ((Jvm.Cond.selects "ShareStatistics$Incidents" ({ cls := "ShareStatistics$Incidents", name := "sumAtPlace", desc := "(IIIII)I" } : Jvm.MethodName) ({ cls := "ShareStatistics$Incidents", name := "sumAtPlace", desc := "(IIIII)I" } : Jvm.MethodName))) ∈ allW := aw 490 (by decide +kernel) (by decide +kernel)
theorem ml_X1_X1_sortIn : ((Jvm.Cond.methodLink "ShareStatistics$Incidents" (65 : Nat) ({ cls := "ShareStatistics$Incidents", name := "sortIn", desc := "(II)V" } : Jvm.MethodName))) ∈ allW := aw 492 (by decide +kernel) (by decide +kernel)
theorem im_X1_sortIn : ((Jvm.Cond.instanceMethod ({ cls := "ShareStatistics$Incidents", name := "sortIn", desc := "(II)V" } : Jvm.MethodName))) ∈ allW := aw 494 (by decide +kernel) (by decide +kernel)
theorem ml_L_L_compare : ((Jvm.Cond.methodLink "ShareStatisticsLaw" (116 : Nat) ({ cls := "ShareStatisticsLaw", name := "compare", desc := "(LShareStatistics;II[J)I" } : Jvm.MethodName))) ∈ allW := aw 496 (by decide +kernel) (by decide +kernel)
theorem sm_L_compare : ((Jvm.Cond.static ({ cls := "ShareStatisticsLaw", name := "compare", desc := "(LShareStatistics;II[J)I" } : Jvm.MethodName))) ∈ allW := aw 497 (by decide +kernel) (by decide +kernel)
theorem ml_L_X4_compare : ((Jvm.Cond.methodLink "ShareStatisticsLaw" (46 : Nat) ({ cls := "ShareStatistics", name := "compare", desc := "(II)I" } : Jvm.MethodName))) ∈ allW := aw 499 (by decide +kernel) (by decide +kernel)
theorem im_X4_compare : ((Jvm.Cond.instanceMethod ({ cls := "ShareStatistics", name := "compare", desc := "(II)I" } : Jvm.MethodName))) ∈ allW := aw 500 (by decide +kernel) (by decide +kernel)
theorem se_X4_compare : ((Jvm.Cond.selects "ShareStatistics" ({ cls := "ShareStatistics", name := "compare", desc := "(II)I" } : Jvm.MethodName) ({ cls := "ShareStatistics", name := "compare", desc := "(II)I" } : Jvm.MethodName))) ∈ allW := aw 501 (by decide +kernel) (by decide +kernel)
theorem ml_X4_Integer_compare : ((Jvm.Cond.methodLink "ShareStatistics" (120 : Nat) ({ cls := "java/lang/Integer", name := "compare", desc := "(II)I" } : Jvm.MethodName))) ∈ allW := aw 503 (by decide +kernel) (by decide +kernel)
theorem ml_L_L_trend : ((Jvm.Cond.methodLink "ShareStatisticsLaw" (119 : Nat) ({ cls := "ShareStatisticsLaw", name := "trend", desc := "(LShareStatistics;IIII[J)I" } : Jvm.MethodName))) ∈ allW := aw 506 (by decide +kernel) (by decide +kernel)
theorem sm_L_trend : ((Jvm.Cond.static ({ cls := "ShareStatisticsLaw", name := "trend", desc := "(LShareStatistics;IIII[J)I" } : Jvm.MethodName))) ∈ allW := aw 507 (by decide +kernel) (by decide +kernel)
theorem ml_L_X4_trend : ((Jvm.Cond.methodLink "ShareStatisticsLaw" (49 : Nat) ({ cls := "ShareStatistics", name := "trend", desc := "(IIII)I" } : Jvm.MethodName))) ∈ allW := aw 509 (by decide +kernel) (by decide +kernel)
theorem im_X4_trend : ((Jvm.Cond.instanceMethod ({ cls := "ShareStatistics", name := "trend", desc := "(IIII)I" } : Jvm.MethodName))) ∈ allW := aw 510 (by decide +kernel) (by decide +kernel)
theorem se_X4_trend : ((Jvm.Cond.selects "ShareStatistics" ({ cls := "ShareStatistics", name := "trend", desc := "(IIII)I" } : Jvm.MethodName) ({ cls := "ShareStatistics", name := "trend", desc := "(IIII)I" } : Jvm.MethodName))) ∈ allW := aw 511 (by decide +kernel) (by decide +kernel)
theorem ml_X4_X3_start : ((Jvm.Cond.methodLink "ShareStatistics" (125 : Nat) ({ cls := "ShareStatistics$Trend", name := "start", desc := "(I)V" } : Jvm.MethodName))) ∈ allW := aw 513 (by decide +kernel) (by decide +kernel)
theorem im_X3_start : ((Jvm.Cond.instanceMethod ({ cls := "ShareStatistics$Trend", name := "start", desc := "(I)V" } : Jvm.MethodName))) ∈ allW := aw 514 (by decide +kernel) (by decide +kernel)
theorem se_X3_start : ((Jvm.Cond.selects "ShareStatistics$Trend" ({ cls := "ShareStatistics$Trend", name := "start", desc := "(I)V" } : Jvm.MethodName) ({ cls := "ShareStatistics$Trend", name := "start", desc := "(I)V" } : Jvm.MethodName))) ∈ allW := aw 515 (by decide +kernel) (by decide +kernel)
theorem ml_X3_Math_min : ((Jvm.Cond.methodLink "ShareStatistics$Trend" (15 : Nat) ({ cls := "java/lang/Math", name := "min", desc := "(II)I" } : Jvm.MethodName))) ∈ allW := aw 517 (by decide +kernel) (by decide +kernel)
theorem ml_X4_X1_number : ((Jvm.Cond.methodLink "ShareStatistics" (128 : Nat) ({ cls := "ShareStatistics$Incidents", name := "number", desc := "(IIII)I" } : Jvm.MethodName))) ∈ allW := aw 520 (by decide +kernel) (by decide +kernel)
theorem ml_X4_X3_setCount : ((Jvm.Cond.methodLink "ShareStatistics" (132 : Nat) ({ cls := "ShareStatistics$Trend", name := "setCount", desc := "(II)V" } : Jvm.MethodName))) ∈ allW := aw 521 (by decide +kernel) (by decide +kernel)
theorem im_X3_setCount : ((Jvm.Cond.instanceMethod ({ cls := "ShareStatistics$Trend", name := "setCount", desc := "(II)V" } : Jvm.MethodName))) ∈ allW := aw 522 (by decide +kernel) (by decide +kernel)
theorem se_X3_setCount : ((Jvm.Cond.selects "ShareStatistics$Trend" ({ cls := "ShareStatistics$Trend", name := "setCount", desc := "(II)V" } : Jvm.MethodName) ({ cls := "ShareStatistics$Trend", name := "setCount", desc := "(II)V" } : Jvm.MethodName))) ∈ allW := aw 523 (by decide +kernel) (by decide +kernel)
theorem ml_X4_X3_sum : ((Jvm.Cond.methodLink "ShareStatistics" (135 : Nat) ({ cls := "ShareStatistics$Trend", name := "sum", desc := "()I" } : Jvm.MethodName))) ∈ allW := aw 525 (by decide +kernel) (by decide +kernel)
theorem im_X3_sum : ((Jvm.Cond.instanceMethod ({ cls := "ShareStatistics$Trend", name := "sum", desc := "()I" } : Jvm.MethodName))) ∈ allW := aw 526 (by decide +kernel) (by decide +kernel)
theorem se_X3_sum : ((Jvm.Cond.selects "ShareStatistics$Trend" ({ cls := "ShareStatistics$Trend", name := "sum", desc := "()I" } : Jvm.MethodName) ({ cls := "ShareStatistics$Trend", name := "sum", desc := "()I" } : Jvm.MethodName))) ∈ allW := aw 527 (by decide +kernel) (by decide +kernel)
theorem ml_X3_X3_gain : ((Jvm.Cond.methodLink "ShareStatistics$Trend" (25 : Nat) ({ cls := "ShareStatistics$Trend", name := "gain", desc := "([IIII)I" } : Jvm.MethodName))) ∈ allW := aw 529 (by decide +kernel) (by decide +kernel)
theorem sm_X3_gain : ((Jvm.Cond.static ({ cls := "ShareStatistics$Trend", name := "gain", desc := "([IIII)I" } : Jvm.MethodName))) ∈ allW := aw 530 (by decide +kernel) (by decide +kernel)
theorem ml_X3_X3_isTaken : ((Jvm.Cond.methodLink "ShareStatistics$Trend" (33 : Nat) ({ cls := "ShareStatistics$Trend", name := "isTaken", desc := "(II)Z" } : Jvm.MethodName))) ∈ allW := aw 532 (by decide +kernel) (by decide +kernel)
theorem sm_X3_isTaken : ((Jvm.Cond.static ({ cls := "ShareStatistics$Trend", name := "isTaken", desc := "(II)Z" } : Jvm.MethodName))) ∈ allW := aw 533 (by decide +kernel) (by decide +kernel)
theorem ml_X3_Integer_compare : ((Jvm.Cond.methodLink "ShareStatistics$Trend" (37 : Nat) ({ cls := "java/lang/Integer", name := "compare", desc := "(II)I" } : Jvm.MethodName))) ∈ allW := aw 535 (by decide +kernel) (by decide +kernel)
theorem ml_X4_X3_ordersNotBelow : ((Jvm.Cond.methodLink "ShareStatistics" (138 : Nat) ({ cls := "ShareStatistics$Trend", name := "ordersNotBelow", desc := "(I)I" } : Jvm.MethodName))) ∈ allW := aw 536 (by decide +kernel) (by decide +kernel)
theorem im_X3_ordersNotBelow : ((Jvm.Cond.instanceMethod ({ cls := "ShareStatistics$Trend", name := "ordersNotBelow", desc := "(I)I" } : Jvm.MethodName))) ∈ allW := aw 537 (by decide +kernel) (by decide +kernel)
theorem se_X3_ordersNotBelow : ((Jvm.Cond.selects "ShareStatistics$Trend" ({ cls := "ShareStatistics$Trend", name := "ordersNotBelow", desc := "(I)I" } : Jvm.MethodName) ({ cls := "ShareStatistics$Trend", name := "ordersNotBelow", desc := "(I)I" } : Jvm.MethodName))) ∈ allW := aw 538 (by decide +kernel) (by decide +kernel)
theorem ml_X3_X3_ordersBehind : ((Jvm.Cond.methodLink "ShareStatistics$Trend" (29 : Nat) ({ cls := "ShareStatistics$Trend", name := "ordersBehind", desc := "([IIIIII)I" } : Jvm.MethodName))) ∈ allW := aw 540 (by decide +kernel) (by decide +kernel)
theorem sm_X3_ordersBehind : ((Jvm.Cond.static ({ cls := "ShareStatistics$Trend", name := "ordersBehind", desc := "([IIIIII)I" } : Jvm.MethodName))) ∈ allW := aw 541 (by decide +kernel) (by decide +kernel)
theorem ml_X4_X3_orders : ((Jvm.Cond.methodLink "ShareStatistics" (142 : Nat) ({ cls := "ShareStatistics$Trend", name := "orders", desc := "()I" } : Jvm.MethodName))) ∈ allW := aw 543 (by decide +kernel) (by decide +kernel)
theorem im_X3_orders : ((Jvm.Cond.instanceMethod ({ cls := "ShareStatistics$Trend", name := "orders", desc := "()I" } : Jvm.MethodName))) ∈ allW := aw 544 (by decide +kernel) (by decide +kernel)
theorem se_X3_orders : ((Jvm.Cond.selects "ShareStatistics$Trend" ({ cls := "ShareStatistics$Trend", name := "orders", desc := "()I" } : Jvm.MethodName) ({ cls := "ShareStatistics$Trend", name := "orders", desc := "()I" } : Jvm.MethodName))) ∈ allW := aw 545 (by decide +kernel) (by decide +kernel)
theorem ml_L_L_people : ((Jvm.Cond.methodLink "ShareStatisticsLaw" (123 : Nat) ({ cls := "ShareStatisticsLaw", name := "people", desc := "(LShareStatistics;II)I" } : Jvm.MethodName))) ∈ allW := aw 547 (by decide +kernel) (by decide +kernel)
theorem sm_L_people : ((Jvm.Cond.static ({ cls := "ShareStatisticsLaw", name := "people", desc := "(LShareStatistics;II)I" } : Jvm.MethodName))) ∈ allW := aw 548 (by decide +kernel) (by decide +kernel)
theorem ml_L_X4_people : ((Jvm.Cond.methodLink "ShareStatisticsLaw" (53 : Nat) ({ cls := "ShareStatistics", name := "people", desc := "(II)V" } : Jvm.MethodName))) ∈ allW := aw 550 (by decide +kernel) (by decide +kernel)
theorem im_X4_people : ((Jvm.Cond.instanceMethod ({ cls := "ShareStatistics", name := "people", desc := "(II)V" } : Jvm.MethodName))) ∈ allW := aw 551 (by decide +kernel) (by decide +kernel)
theorem se_X4_people : ((Jvm.Cond.selects "ShareStatistics" ({ cls := "ShareStatistics", name := "people", desc := "(II)V" } : Jvm.MethodName) ({ cls := "ShareStatistics", name := "people", desc := "(II)V" } : Jvm.MethodName))) ∈ allW := aw 552 (by decide +kernel) (by decide +kernel)
theorem ct_X4_145 : ((Jvm.Cond.constant "ShareStatistics" (145 : Nat) (1000000 : Int32))) ∈ allW := aw 554 (by decide +kernel) (by decide +kernel)
theorem ml_L_L_perThousand : ((Jvm.Cond.methodLink "ShareStatisticsLaw" (127 : Nat) ({ cls := "ShareStatisticsLaw", name := "perThousand", desc := "(LShareStatistics;I[J)I" } : Jvm.MethodName))) ∈ allW := aw 555 (by decide +kernel) (by decide +kernel)
theorem sm_L_perThousand : ((Jvm.Cond.static ({ cls := "ShareStatisticsLaw", name := "perThousand", desc := "(LShareStatistics;I[J)I" } : Jvm.MethodName))) ∈ allW := aw 556 (by decide +kernel) (by decide +kernel)
theorem ml_L_X4_perThousand : ((Jvm.Cond.methodLink "ShareStatisticsLaw" (57 : Nat) ({ cls := "ShareStatistics", name := "perThousand", desc := "(I)I" } : Jvm.MethodName))) ∈ allW := aw 558 (by decide +kernel) (by decide +kernel)
theorem im_X4_perThousand : ((Jvm.Cond.instanceMethod ({ cls := "ShareStatistics", name := "perThousand", desc := "(I)I" } : Jvm.MethodName))) ∈ allW := aw 559 (by decide +kernel) (by decide +kernel)
theorem se_X4_perThousand : ((Jvm.Cond.selects "ShareStatistics" ({ cls := "ShareStatistics", name := "perThousand", desc := "(I)I" } : Jvm.MethodName) ({ cls := "ShareStatistics", name := "perThousand", desc := "(I)I" } : Jvm.MethodName))) ∈ allW := aw 560 (by decide +kernel) (by decide +kernel)
theorem ml_X4_X4_rowsOfArea : ((Jvm.Cond.methodLink "ShareStatistics" (151 : Nat) ({ cls := "ShareStatistics", name := "rowsOfArea", desc := "(I)I" } : Jvm.MethodName))) ∈ allW := aw 563 (by decide +kernel) (by decide +kernel)
theorem im_X4_rowsOfArea : ((Jvm.Cond.instanceMethod ({ cls := "ShareStatistics", name := "rowsOfArea", desc := "(I)I" } : Jvm.MethodName))) ∈ allW := aw 565 (by decide +kernel) (by decide +kernel)
theorem ml_L_L_rank : ((Jvm.Cond.methodLink "ShareStatisticsLaw" (130 : Nat) ({ cls := "ShareStatisticsLaw", name := "rank", desc := "(LShareStatistics;I[J)I" } : Jvm.MethodName))) ∈ allW := aw 567 (by decide +kernel) (by decide +kernel)
theorem sm_L_rank : ((Jvm.Cond.static ({ cls := "ShareStatisticsLaw", name := "rank", desc := "(LShareStatistics;I[J)I" } : Jvm.MethodName))) ∈ allW := aw 568 (by decide +kernel) (by decide +kernel)
theorem ml_L_X4_rank : ((Jvm.Cond.methodLink "ShareStatisticsLaw" (60 : Nat) ({ cls := "ShareStatistics", name := "rank", desc := "(I)I" } : Jvm.MethodName))) ∈ allW := aw 570 (by decide +kernel) (by decide +kernel)
theorem im_X4_rank : ((Jvm.Cond.instanceMethod ({ cls := "ShareStatistics", name := "rank", desc := "(I)I" } : Jvm.MethodName))) ∈ allW := aw 571 (by decide +kernel) (by decide +kernel)
theorem se_X4_rank : ((Jvm.Cond.selects "ShareStatistics" ({ cls := "ShareStatistics", name := "rank", desc := "(I)I" } : Jvm.MethodName) ({ cls := "ShareStatistics", name := "rank", desc := "(I)I" } : Jvm.MethodName))) ∈ allW := aw 572 (by decide +kernel) (by decide +kernel)
theorem ml_L_L_least : ((Jvm.Cond.methodLink "ShareStatisticsLaw" (133 : Nat) ({ cls := "ShareStatisticsLaw", name := "least", desc := "(LShareStatistics;I)I" } : Jvm.MethodName))) ∈ allW := aw 574 (by decide +kernel) (by decide +kernel)
theorem sm_L_least : ((Jvm.Cond.static ({ cls := "ShareStatisticsLaw", name := "least", desc := "(LShareStatistics;I)I" } : Jvm.MethodName))) ∈ allW := aw 575 (by decide +kernel) (by decide +kernel)
theorem ml_L_X4_least : ((Jvm.Cond.methodLink "ShareStatisticsLaw" (63 : Nat) ({ cls := "ShareStatistics", name := "least", desc := "(I)V" } : Jvm.MethodName))) ∈ allW := aw 577 (by decide +kernel) (by decide +kernel)
theorem im_X4_least : ((Jvm.Cond.instanceMethod ({ cls := "ShareStatistics", name := "least", desc := "(I)V" } : Jvm.MethodName))) ∈ allW := aw 578 (by decide +kernel) (by decide +kernel)
theorem se_X4_least : ((Jvm.Cond.selects "ShareStatistics" ({ cls := "ShareStatistics", name := "least", desc := "(I)V" } : Jvm.MethodName) ({ cls := "ShareStatistics", name := "least", desc := "(I)V" } : Jvm.MethodName))) ∈ allW := aw 579 (by decide +kernel) (by decide +kernel)
theorem ml_X4_X2_setLeast : ((Jvm.Cond.methodLink "ShareStatistics" (154 : Nat) ({ cls := "ShareStatistics$Secrecy", name := "setLeast", desc := "(I)V" } : Jvm.MethodName))) ∈ allW := aw 581 (by decide +kernel) (by decide +kernel)
theorem im_X2_setLeast : ((Jvm.Cond.instanceMethod ({ cls := "ShareStatistics$Secrecy", name := "setLeast", desc := "(I)V" } : Jvm.MethodName))) ∈ allW := aw 582 (by decide +kernel) (by decide +kernel)
theorem se_X2_setLeast : ((Jvm.Cond.selects "ShareStatistics$Secrecy" ({ cls := "ShareStatistics$Secrecy", name := "setLeast", desc := "(I)V" } : Jvm.MethodName) ({ cls := "ShareStatistics$Secrecy", name := "setLeast", desc := "(I)V" } : Jvm.MethodName))) ∈ allW := aw 583 (by decide +kernel) (by decide +kernel)
theorem ml_L_L_shown : ((Jvm.Cond.methodLink "ShareStatisticsLaw" (137 : Nat) ({ cls := "ShareStatisticsLaw", name := "shown", desc := "(LShareStatistics;I[J)I" } : Jvm.MethodName))) ∈ allW := aw 585 (by decide +kernel) (by decide +kernel)
theorem sm_L_shown : ((Jvm.Cond.static ({ cls := "ShareStatisticsLaw", name := "shown", desc := "(LShareStatistics;I[J)I" } : Jvm.MethodName))) ∈ allW := aw 586 (by decide +kernel) (by decide +kernel)
theorem ml_L_X4_shown : ((Jvm.Cond.methodLink "ShareStatisticsLaw" (67 : Nat) ({ cls := "ShareStatistics", name := "shown", desc := "(I)I" } : Jvm.MethodName))) ∈ allW := aw 588 (by decide +kernel) (by decide +kernel)
theorem im_X4_shown : ((Jvm.Cond.instanceMethod ({ cls := "ShareStatistics", name := "shown", desc := "(I)I" } : Jvm.MethodName))) ∈ allW := aw 589 (by decide +kernel) (by decide +kernel)
theorem se_X4_shown : ((Jvm.Cond.selects "ShareStatistics" ({ cls := "ShareStatistics", name := "shown", desc := "(I)I" } : Jvm.MethodName) ({ cls := "ShareStatistics", name := "shown", desc := "(I)I" } : Jvm.MethodName))) ∈ allW := aw 590 (by decide +kernel) (by decide +kernel)
theorem ml_X4_X2_rowsShown : ((Jvm.Cond.methodLink "ShareStatistics" (161 : Nat) ({ cls := "ShareStatistics$Secrecy", name := "rowsShown", desc := "(I)I" } : Jvm.MethodName))) ∈ allW := aw 592 (by decide +kernel) (by decide +kernel)
theorem im_X2_rowsShown : ((Jvm.Cond.instanceMethod ({ cls := "ShareStatistics$Secrecy", name := "rowsShown", desc := "(I)I" } : Jvm.MethodName))) ∈ allW := aw 593 (by decide +kernel) (by decide +kernel)
theorem se_X2_rowsShown : ((Jvm.Cond.selects "ShareStatistics$Secrecy" ({ cls := "ShareStatistics$Secrecy", name := "rowsShown", desc := "(I)I" } : Jvm.MethodName) ({ cls := "ShareStatistics$Secrecy", name := "rowsShown", desc := "(I)I" } : Jvm.MethodName))) ∈ allW := aw 594 (by decide +kernel) (by decide +kernel)
theorem ml_L_L_work : ((Jvm.Cond.methodLink "ShareStatisticsLaw" (144 : Nat) ({ cls := "ShareStatisticsLaw", name := "work", desc := "(LShareStatistics;II[J)I" } : Jvm.MethodName))) ∈ allW := aw 596 (by decide +kernel) (by decide +kernel)
theorem sm_L_work : ((Jvm.Cond.static ({ cls := "ShareStatisticsLaw", name := "work", desc := "(LShareStatistics;II[J)I" } : Jvm.MethodName))) ∈ allW := aw 597 (by decide +kernel) (by decide +kernel)
theorem ml_L_X4_work : ((Jvm.Cond.methodLink "ShareStatisticsLaw" (70 : Nat) ({ cls := "ShareStatistics", name := "work", desc := "(II)I" } : Jvm.MethodName))) ∈ allW := aw 599 (by decide +kernel) (by decide +kernel)
theorem im_X4_work : ((Jvm.Cond.instanceMethod ({ cls := "ShareStatistics", name := "work", desc := "(II)I" } : Jvm.MethodName))) ∈ allW := aw 600 (by decide +kernel) (by decide +kernel)
theorem se_X4_work : ((Jvm.Cond.selects "ShareStatistics" ({ cls := "ShareStatistics", name := "work", desc := "(II)I" } : Jvm.MethodName) ({ cls := "ShareStatistics", name := "work", desc := "(II)I" } : Jvm.MethodName))) ∈ allW := aw 601 (by decide +kernel) (by decide +kernel)
theorem ml_X4_X1_ofStation : ((Jvm.Cond.methodLink "ShareStatistics" (167 : Nat) ({ cls := "ShareStatistics$Incidents", name := "ofStation", desc := "(III)I" } : Jvm.MethodName))) ∈ allW := aw 603 (by decide +kernel) (by decide +kernel)
theorem im_X1_ofStation : ((Jvm.Cond.instanceMethod ({ cls := "ShareStatistics$Incidents", name := "ofStation", desc := "(III)I" } : Jvm.MethodName))) ∈ allW := aw 604 (by decide +kernel) (by decide +kernel)
theorem se_X1_ofStation : ((Jvm.Cond.selects "ShareStatistics$Incidents" ({ cls := "ShareStatistics$Incidents", name := "ofStation", desc := "(III)I" } : Jvm.MethodName) ({ cls := "ShareStatistics$Incidents", name := "ofStation", desc := "(III)I" } : Jvm.MethodName))) ∈ allW := aw 605 (by decide +kernel) (by decide +kernel)
theorem ml_X1_X1_isWork : ((Jvm.Cond.methodLink "ShareStatistics$Incidents" (76 : Nat) ({ cls := "ShareStatistics$Incidents", name := "isWork", desc := "(IIII)Z" } : Jvm.MethodName))) ∈ allW := aw 607 (by decide +kernel) (by decide +kernel)
theorem im_X1_isWork : ((Jvm.Cond.instanceMethod ({ cls := "ShareStatistics$Incidents", name := "isWork", desc := "(IIII)Z" } : Jvm.MethodName))) ∈ allW := aw 609 (by decide +kernel) (by decide +kernel)
theorem ml_X4_X1_secondsOfStation : ((Jvm.Cond.methodLink "ShareStatistics" (170 : Nat) ({ cls := "ShareStatistics$Incidents", name := "secondsOfStation", desc := "(III)I" } : Jvm.MethodName))) ∈ allW := aw 611 (by decide +kernel) (by decide +kernel)
theorem im_X1_secondsOfStation : ((Jvm.Cond.instanceMethod ({ cls := "ShareStatistics$Incidents", name := "secondsOfStation", desc := "(III)I" } : Jvm.MethodName))) ∈ allW := aw 612 (by decide +kernel) (by decide +kernel)
theorem se_X1_secondsOfStation : ((Jvm.Cond.selects "ShareStatistics$Incidents" ({ cls := "ShareStatistics$Incidents", name := "secondsOfStation", desc := "(III)I" } : Jvm.MethodName) ({ cls := "ShareStatistics$Incidents", name := "secondsOfStation", desc := "(III)I" } : Jvm.MethodName))) ∈ allW := aw 613 (by decide +kernel) (by decide +kernel)
theorem cl_L_X5 : ((Jvm.Cond.classLink "ShareStatisticsLaw" (74 : Nat) "ShareStatisticsModel")) ∈ allW := aw 615 (by decide +kernel) (by decide +kernel)
theorem mk_X5 : ((Jvm.Cond.instantiable "ShareStatisticsModel" (24 : Nat))) ∈ allW := aw 616 (by decide +kernel) (by decide +kernel)
theorem ml_L_X5_init : ((Jvm.Cond.methodLink "ShareStatisticsLaw" (76 : Nat) ({ cls := "ShareStatisticsModel", name := "<init>", desc := "()V" } : Jvm.MethodName))) ∈ allW := aw 617 (by decide +kernel) (by decide +kernel)
theorem im_X5_init : ((Jvm.Cond.instanceMethod ({ cls := "ShareStatisticsModel", name := "<init>", desc := "()V" } : Jvm.MethodName))) ∈ allW := aw 618 (by decide +kernel) (by decide +kernel)
theorem ml_X5_Object_init : ((Jvm.Cond.methodLink "ShareStatisticsModel" (1 : Nat) ({ cls := "java/lang/Object", name := "<init>", desc := "()V" } : Jvm.MethodName))) ∈ allW := aw 620 (by decide +kernel) (by decide +kernel)
theorem fl_X5_thrown : ((Jvm.Cond.fieldLink "ShareStatisticsModel" (72 : Nat) "ShareStatisticsModel" "thrown" "I")) ∈ allW := aw 621 (by decide +kernel) (by decide +kernel)
theorem fl_X5_rows : ((Jvm.Cond.fieldLink "ShareStatisticsModel" (87 : Nat) "ShareStatisticsModel" "rows" "I")) ∈ allW := aw 622 (by decide +kernel) (by decide +kernel)
theorem fl_X5_day : ((Jvm.Cond.fieldLink "ShareStatisticsModel" (7 : Nat) "ShareStatisticsModel" "day" "[I")) ∈ allW := aw 623 (by decide +kernel) (by decide +kernel)
theorem fl_X5_hour : ((Jvm.Cond.fieldLink "ShareStatisticsModel" (13 : Nat) "ShareStatisticsModel" "hour" "[I")) ∈ allW := aw 624 (by decide +kernel) (by decide +kernel)
theorem fl_X5_kind : ((Jvm.Cond.fieldLink "ShareStatisticsModel" (16 : Nat) "ShareStatisticsModel" "kind" "[I")) ∈ allW := aw 625 (by decide +kernel) (by decide +kernel)
theorem fl_X5_area : ((Jvm.Cond.fieldLink "ShareStatisticsModel" (19 : Nat) "ShareStatisticsModel" "area" "[I")) ∈ allW := aw 626 (by decide +kernel) (by decide +kernel)
theorem fl_X5_station : ((Jvm.Cond.fieldLink "ShareStatisticsModel" (22 : Nat) "ShareStatisticsModel" "station" "[I")) ∈ allW := aw 627 (by decide +kernel) (by decide +kernel)
theorem fl_X5_wrong : ((Jvm.Cond.fieldLink "ShareStatisticsModel" (25 : Nat) "ShareStatisticsModel" "wrong" "[Z")) ∈ allW := aw 628 (by decide +kernel) (by decide +kernel)
theorem fl_X5_hidden : ((Jvm.Cond.fieldLink "ShareStatisticsModel" (29 : Nat) "ShareStatisticsModel" "hidden" "[Z")) ∈ allW := aw 629 (by decide +kernel) (by decide +kernel)
theorem fl_X5_turnOut : ((Jvm.Cond.fieldLink "ShareStatisticsModel" (32 : Nat) "ShareStatisticsModel" "turnOut" "[I")) ∈ allW := aw 630 (by decide +kernel) (by decide +kernel)
theorem fl_X5_travel : ((Jvm.Cond.fieldLink "ShareStatisticsModel" (35 : Nat) "ShareStatisticsModel" "travel" "[I")) ∈ allW := aw 631 (by decide +kernel) (by decide +kernel)
theorem fl_X5_definitions : ((Jvm.Cond.fieldLink "ShareStatisticsModel" (94 : Nat) "ShareStatisticsModel" "definitions" "I")) ∈ allW := aw 632 (by decide +kernel) (by decide +kernel)
theorem fl_X5_since : ((Jvm.Cond.fieldLink "ShareStatisticsModel" (38 : Nat) "ShareStatisticsModel" "since" "[I")) ∈ allW := aw 633 (by decide +kernel) (by decide +kernel)
theorem fl_X5_mark : ((Jvm.Cond.fieldLink "ShareStatisticsModel" (41 : Nat) "ShareStatisticsModel" "mark" "[I")) ∈ allW := aw 634 (by decide +kernel) (by decide +kernel)
theorem fl_X5_from : ((Jvm.Cond.fieldLink "ShareStatisticsModel" (97 : Nat) "ShareStatisticsModel" "from" "I")) ∈ allW := aw 635 (by decide +kernel) (by decide +kernel)
theorem fl_X5_to : ((Jvm.Cond.fieldLink "ShareStatisticsModel" (44 : Nat) "ShareStatisticsModel" "to" "I")) ∈ allW := aw 636 (by decide +kernel) (by decide +kernel)
theorem fl_X5_askedKind : ((Jvm.Cond.fieldLink "ShareStatisticsModel" (48 : Nat) "ShareStatisticsModel" "askedKind" "I")) ∈ allW := aw 637 (by decide +kernel) (by decide +kernel)
theorem fl_X5_askedArea : ((Jvm.Cond.fieldLink "ShareStatisticsModel" (51 : Nat) "ShareStatisticsModel" "askedArea" "I")) ∈ allW := aw 638 (by decide +kernel) (by decide +kernel)
theorem fl_X5_people : ((Jvm.Cond.fieldLink "ShareStatisticsModel" (54 : Nat) "ShareStatisticsModel" "people" "[I")) ∈ allW := aw 639 (by decide +kernel) (by decide +kernel)
theorem fl_X5_least : ((Jvm.Cond.fieldLink "ShareStatisticsModel" (57 : Nat) "ShareStatisticsModel" "least" "I")) ∈ allW := aw 640 (by decide +kernel) (by decide +kernel)
theorem fl_X5_counts : ((Jvm.Cond.fieldLink "ShareStatisticsModel" (60 : Nat) "ShareStatisticsModel" "counts" "[I")) ∈ allW := aw 641 (by decide +kernel) (by decide +kernel)
theorem fl_X5_table : ((Jvm.Cond.fieldLink "ShareStatisticsModel" (63 : Nat) "ShareStatisticsModel" "table" "[I")) ∈ allW := aw 642 (by decide +kernel) (by decide +kernel)
theorem fl_X5_sums : ((Jvm.Cond.fieldLink "ShareStatisticsModel" (66 : Nat) "ShareStatisticsModel" "sums" "[I")) ∈ allW := aw 643 (by decide +kernel) (by decide +kernel)
theorem fl_X5_isJoined : ((Jvm.Cond.fieldLink "ShareStatisticsModel" (69 : Nat) "ShareStatisticsModel" "isJoined" "[Z")) ∈ allW := aw 644 (by decide +kernel) (by decide +kernel)
theorem ml_L_X5_thrown : ((Jvm.Cond.methodLink "ShareStatisticsLaw" (83 : Nat) ({ cls := "ShareStatisticsModel", name := "thrown", desc := "()I" } : Jvm.MethodName))) ∈ allW := aw 694 (by decide +kernel) (by decide +kernel)
theorem im_X5_thrown : ((Jvm.Cond.instanceMethod ({ cls := "ShareStatisticsModel", name := "thrown", desc := "()I" } : Jvm.MethodName))) ∈ allW := aw 695 (by decide +kernel) (by decide +kernel)
theorem se_X5_thrown : ((Jvm.Cond.selects "ShareStatisticsModel" ({ cls := "ShareStatisticsModel", name := "thrown", desc := "()I" } : Jvm.MethodName) ({ cls := "ShareStatisticsModel", name := "thrown", desc := "()I" } : Jvm.MethodName))) ∈ allW := aw 696 (by decide +kernel) (by decide +kernel)
theorem ml_L_X5_row : ((Jvm.Cond.methodLink "ShareStatisticsLaw" (82 : Nat) ({ cls := "ShareStatisticsModel", name := "row", desc := "(IIIIII)I" } : Jvm.MethodName))) ∈ allW := aw 698 (by decide +kernel) (by decide +kernel)
theorem im_X5_row : ((Jvm.Cond.instanceMethod ({ cls := "ShareStatisticsModel", name := "row", desc := "(IIIIII)I" } : Jvm.MethodName))) ∈ allW := aw 699 (by decide +kernel) (by decide +kernel)
theorem se_X5_row : ((Jvm.Cond.selects "ShareStatisticsModel" ({ cls := "ShareStatisticsModel", name := "row", desc := "(IIIIII)I" } : Jvm.MethodName) ({ cls := "ShareStatisticsModel", name := "row", desc := "(IIIIII)I" } : Jvm.MethodName))) ∈ allW := aw 700 (by decide +kernel) (by decide +kernel)
theorem ml_X5_X5_in : ((Jvm.Cond.methodLink "ShareStatisticsModel" (79 : Nat) ({ cls := "ShareStatisticsModel", name := "in", desc := "(III)Z" } : Jvm.MethodName))) ∈ allW := aw 702 (by decide +kernel) (by decide +kernel)
theorem sm_X5_in : ((Jvm.Cond.static ({ cls := "ShareStatisticsModel", name := "in", desc := "(III)Z" } : Jvm.MethodName))) ∈ allW := aw 703 (by decide +kernel) (by decide +kernel)
theorem ml_X5_X5_isDay : ((Jvm.Cond.methodLink "ShareStatisticsModel" (83 : Nat) ({ cls := "ShareStatisticsModel", name := "isDay", desc := "(I)Z" } : Jvm.MethodName))) ∈ allW := aw 705 (by decide +kernel) (by decide +kernel)
theorem sm_X5_isDay : ((Jvm.Cond.static ({ cls := "ShareStatisticsModel", name := "isDay", desc := "(I)Z" } : Jvm.MethodName))) ∈ allW := aw 706 (by decide +kernel) (by decide +kernel)
theorem ml_X5_X5_throwing : ((Jvm.Cond.methodLink "ShareStatisticsModel" (90 : Nat) ({ cls := "ShareStatisticsModel", name := "throwing", desc := "(ZZZ)Z" } : Jvm.MethodName))) ∈ allW := aw 708 (by decide +kernel) (by decide +kernel)
theorem im_X5_throwing : ((Jvm.Cond.instanceMethod ({ cls := "ShareStatisticsModel", name := "throwing", desc := "(ZZZ)Z" } : Jvm.MethodName))) ∈ allW := aw 710 (by decide +kernel) (by decide +kernel)
theorem ml_X5_X5_thrownBy : ((Jvm.Cond.methodLink "ShareStatisticsModel" (75 : Nat) ({ cls := "ShareStatisticsModel", name := "thrownBy", desc := "(ZZZ)I" } : Jvm.MethodName))) ∈ allW := aw 712 (by decide +kernel) (by decide +kernel)
theorem im_X5_thrownBy : ((Jvm.Cond.instanceMethod ({ cls := "ShareStatisticsModel", name := "thrownBy", desc := "(ZZZ)I" } : Jvm.MethodName))) ∈ allW := aw 714 (by decide +kernel) (by decide +kernel)
theorem ml_L_X5_values : ((Jvm.Cond.methodLink "ShareStatisticsLaw" (90 : Nat) ({ cls := "ShareStatisticsModel", name := "values", desc := "(III)V" } : Jvm.MethodName))) ∈ allW := aw 716 (by decide +kernel) (by decide +kernel)
theorem im_X5_values : ((Jvm.Cond.instanceMethod ({ cls := "ShareStatisticsModel", name := "values", desc := "(III)V" } : Jvm.MethodName))) ∈ allW := aw 717 (by decide +kernel) (by decide +kernel)
theorem se_X5_values : ((Jvm.Cond.selects "ShareStatisticsModel" ({ cls := "ShareStatisticsModel", name := "values", desc := "(III)V" } : Jvm.MethodName) ({ cls := "ShareStatisticsModel", name := "values", desc := "(III)V" } : Jvm.MethodName))) ∈ allW := aw 718 (by decide +kernel) (by decide +kernel)
theorem ml_L_X5_define : ((Jvm.Cond.methodLink "ShareStatisticsLaw" (94 : Nat) ({ cls := "ShareStatisticsModel", name := "define", desc := "(II)I" } : Jvm.MethodName))) ∈ allW := aw 720 (by decide +kernel) (by decide +kernel)
theorem im_X5_define : ((Jvm.Cond.instanceMethod ({ cls := "ShareStatisticsModel", name := "define", desc := "(II)I" } : Jvm.MethodName))) ∈ allW := aw 721 (by decide +kernel) (by decide +kernel)
theorem se_X5_define : ((Jvm.Cond.selects "ShareStatisticsModel" ({ cls := "ShareStatisticsModel", name := "define", desc := "(II)I" } : Jvm.MethodName) ({ cls := "ShareStatisticsModel", name := "define", desc := "(II)I" } : Jvm.MethodName))) ∈ allW := aw 722 (by decide +kernel) (by decide +kernel)
theorem ml_L_X5_ask : ((Jvm.Cond.methodLink "ShareStatisticsLaw" (98 : Nat) ({ cls := "ShareStatisticsModel", name := "ask", desc := "(IIII)V" } : Jvm.MethodName))) ∈ allW := aw 724 (by decide +kernel) (by decide +kernel)
theorem im_X5_ask : ((Jvm.Cond.instanceMethod ({ cls := "ShareStatisticsModel", name := "ask", desc := "(IIII)V" } : Jvm.MethodName))) ∈ allW := aw 725 (by decide +kernel) (by decide +kernel)
theorem se_X5_ask : ((Jvm.Cond.selects "ShareStatisticsModel" ({ cls := "ShareStatisticsModel", name := "ask", desc := "(IIII)V" } : Jvm.MethodName) ({ cls := "ShareStatisticsModel", name := "ask", desc := "(IIII)V" } : Jvm.MethodName))) ∈ allW := aw 726 (by decide +kernel) (by decide +kernel)
theorem ml_L_X5_count : ((Jvm.Cond.methodLink "ShareStatisticsLaw" (102 : Nat) ({ cls := "ShareStatisticsModel", name := "count", desc := "(I)I" } : Jvm.MethodName))) ∈ allW := aw 728 (by decide +kernel) (by decide +kernel)
theorem im_X5_count : ((Jvm.Cond.instanceMethod ({ cls := "ShareStatisticsModel", name := "count", desc := "(I)I" } : Jvm.MethodName))) ∈ allW := aw 729 (by decide +kernel) (by decide +kernel)
theorem se_X5_count : ((Jvm.Cond.selects "ShareStatisticsModel" ({ cls := "ShareStatisticsModel", name := "count", desc := "(I)I" } : Jvm.MethodName) ({ cls := "ShareStatisticsModel", name := "count", desc := "(I)I" } : Jvm.MethodName))) ∈ allW := aw 730 (by decide +kernel) (by decide +kernel)
theorem ml_X5_X5_isAsked : ((Jvm.Cond.methodLink "ShareStatisticsModel" (117 : Nat) ({ cls := "ShareStatisticsModel", name := "isAsked", desc := "(I)Z" } : Jvm.MethodName))) ∈ allW := aw 732 (by decide +kernel) (by decide +kernel)
theorem im_X5_isAsked : ((Jvm.Cond.instanceMethod ({ cls := "ShareStatisticsModel", name := "isAsked", desc := "(I)Z" } : Jvm.MethodName))) ∈ allW := aw 734 (by decide +kernel) (by decide +kernel)
theorem ml_X5_X5_fits : ((Jvm.Cond.methodLink "ShareStatisticsModel" (100 : Nat) ({ cls := "ShareStatisticsModel", name := "fits", desc := "(IIIII)Z" } : Jvm.MethodName))) ∈ allW := aw 736 (by decide +kernel) (by decide +kernel)
theorem im_X5_fits : ((Jvm.Cond.instanceMethod ({ cls := "ShareStatisticsModel", name := "fits", desc := "(IIIII)Z" } : Jvm.MethodName))) ∈ allW := aw 738 (by decide +kernel) (by decide +kernel)
theorem ml_X5_X5_isWithin : ((Jvm.Cond.methodLink "ShareStatisticsModel" (114 : Nat) ({ cls := "ShareStatisticsModel", name := "isWithin", desc := "(I)Z" } : Jvm.MethodName))) ∈ allW := aw 740 (by decide +kernel) (by decide +kernel)
theorem im_X5_isWithin : ((Jvm.Cond.instanceMethod ({ cls := "ShareStatisticsModel", name := "isWithin", desc := "(I)Z" } : Jvm.MethodName))) ∈ allW := aw 742 (by decide +kernel) (by decide +kernel)
theorem ml_X5_X5_isWithout : ((Jvm.Cond.methodLink "ShareStatisticsModel" (111 : Nat) ({ cls := "ShareStatisticsModel", name := "isWithout", desc := "(I)Z" } : Jvm.MethodName))) ∈ allW := aw 744 (by decide +kernel) (by decide +kernel)
theorem im_X5_isWithout : ((Jvm.Cond.instanceMethod ({ cls := "ShareStatisticsModel", name := "isWithout", desc := "(I)Z" } : Jvm.MethodName))) ∈ allW := aw 746 (by decide +kernel) (by decide +kernel)
theorem ml_X5_X5_hasBoth : ((Jvm.Cond.methodLink "ShareStatisticsModel" (104 : Nat) ({ cls := "ShareStatisticsModel", name := "hasBoth", desc := "(I)Z" } : Jvm.MethodName))) ∈ allW := aw 748 (by decide +kernel) (by decide +kernel)
theorem im_X5_hasBoth : ((Jvm.Cond.instanceMethod ({ cls := "ShareStatisticsModel", name := "hasBoth", desc := "(I)Z" } : Jvm.MethodName))) ∈ allW := aw 750 (by decide +kernel) (by decide +kernel)
theorem ml_X5_X5_markOf : ((Jvm.Cond.methodLink "ShareStatisticsModel" (107 : Nat) ({ cls := "ShareStatisticsModel", name := "markOf", desc := "(I)I" } : Jvm.MethodName))) ∈ allW := aw 752 (by decide +kernel) (by decide +kernel)
theorem im_X5_markOf : ((Jvm.Cond.instanceMethod ({ cls := "ShareStatisticsModel", name := "markOf", desc := "(I)I" } : Jvm.MethodName))) ∈ allW := aw 754 (by decide +kernel) (by decide +kernel)
theorem ml_L_X5_hour : ((Jvm.Cond.methodLink "ShareStatisticsLaw" (105 : Nat) ({ cls := "ShareStatisticsModel", name := "hour", desc := "(I)I" } : Jvm.MethodName))) ∈ allW := aw 756 (by decide +kernel) (by decide +kernel)
theorem im_X5_hour : ((Jvm.Cond.instanceMethod ({ cls := "ShareStatisticsModel", name := "hour", desc := "(I)I" } : Jvm.MethodName))) ∈ allW := aw 757 (by decide +kernel) (by decide +kernel)
theorem se_X5_hour : ((Jvm.Cond.selects "ShareStatisticsModel" ({ cls := "ShareStatisticsModel", name := "hour", desc := "(I)I" } : Jvm.MethodName) ({ cls := "ShareStatisticsModel", name := "hour", desc := "(I)I" } : Jvm.MethodName))) ∈ allW := aw 758 (by decide +kernel) (by decide +kernel)
theorem ml_L_X5_share : ((Jvm.Cond.methodLink "ShareStatisticsLaw" (108 : Nat) ({ cls := "ShareStatisticsModel", name := "share", desc := "(I)I" } : Jvm.MethodName))) ∈ allW := aw 760 (by decide +kernel) (by decide +kernel)
theorem im_X5_share : ((Jvm.Cond.instanceMethod ({ cls := "ShareStatisticsModel", name := "share", desc := "(I)I" } : Jvm.MethodName))) ∈ allW := aw 761 (by decide +kernel) (by decide +kernel)
theorem se_X5_share : ((Jvm.Cond.selects "ShareStatisticsModel" ({ cls := "ShareStatisticsModel", name := "share", desc := "(I)I" } : Jvm.MethodName) ({ cls := "ShareStatisticsModel", name := "share", desc := "(I)I" } : Jvm.MethodName))) ∈ allW := aw 762 (by decide +kernel) (by decide +kernel)
theorem ml_X5_X5_sharesOf : ((Jvm.Cond.methodLink "ShareStatisticsModel" (120 : Nat) ({ cls := "ShareStatisticsModel", name := "sharesOf", desc := "(III)I" } : Jvm.MethodName))) ∈ allW := aw 764 (by decide +kernel) (by decide +kernel)
theorem im_X5_sharesOf : ((Jvm.Cond.instanceMethod ({ cls := "ShareStatisticsModel", name := "sharesOf", desc := "(III)I" } : Jvm.MethodName))) ∈ allW := aw 766 (by decide +kernel) (by decide +kernel)
theorem ml_X5_X5_common : ((Jvm.Cond.methodLink "ShareStatisticsModel" (124 : Nat) ({ cls := "ShareStatisticsModel", name := "common", desc := "(II)I" } : Jvm.MethodName))) ∈ allW := aw 768 (by decide +kernel) (by decide +kernel)
theorem sm_X5_common : ((Jvm.Cond.static ({ cls := "ShareStatisticsModel", name := "common", desc := "(II)I" } : Jvm.MethodName))) ∈ allW := aw 769 (by decide +kernel) (by decide +kernel)
theorem ml_L_X5_placed : ((Jvm.Cond.methodLink "ShareStatisticsLaw" (111 : Nat) ({ cls := "ShareStatisticsModel", name := "placed", desc := "(I)I" } : Jvm.MethodName))) ∈ allW := aw 771 (by decide +kernel) (by decide +kernel)
theorem im_X5_placed : ((Jvm.Cond.instanceMethod ({ cls := "ShareStatisticsModel", name := "placed", desc := "(I)I" } : Jvm.MethodName))) ∈ allW := aw 772 (by decide +kernel) (by decide +kernel)
theorem se_X5_placed : ((Jvm.Cond.selects "ShareStatisticsModel" ({ cls := "ShareStatisticsModel", name := "placed", desc := "(I)I" } : Jvm.MethodName) ({ cls := "ShareStatisticsModel", name := "placed", desc := "(I)I" } : Jvm.MethodName))) ∈ allW := aw 773 (by decide +kernel) (by decide +kernel)
theorem ml_X5_X5_sumOf : ((Jvm.Cond.methodLink "ShareStatisticsModel" (128 : Nat) ({ cls := "ShareStatisticsModel", name := "sumOf", desc := "(I)I" } : Jvm.MethodName))) ∈ allW := aw 775 (by decide +kernel) (by decide +kernel)
theorem im_X5_sumOf : ((Jvm.Cond.instanceMethod ({ cls := "ShareStatisticsModel", name := "sumOf", desc := "(I)I" } : Jvm.MethodName))) ∈ allW := aw 777 (by decide +kernel) (by decide +kernel)
theorem ml_L_X5_splits : ((Jvm.Cond.methodLink "ShareStatisticsLaw" (115 : Nat) ({ cls := "ShareStatisticsModel", name := "splits", desc := "()I" } : Jvm.MethodName))) ∈ allW := aw 779 (by decide +kernel) (by decide +kernel)
theorem im_X5_splits : ((Jvm.Cond.instanceMethod ({ cls := "ShareStatisticsModel", name := "splits", desc := "()I" } : Jvm.MethodName))) ∈ allW := aw 780 (by decide +kernel) (by decide +kernel)
theorem se_X5_splits : ((Jvm.Cond.selects "ShareStatisticsModel" ({ cls := "ShareStatisticsModel", name := "splits", desc := "()I" } : Jvm.MethodName) ({ cls := "ShareStatisticsModel", name := "splits", desc := "()I" } : Jvm.MethodName))) ∈ allW := aw 781 (by decide +kernel) (by decide +kernel)
theorem ml_L_X5_compare : ((Jvm.Cond.methodLink "ShareStatisticsLaw" (118 : Nat) ({ cls := "ShareStatisticsModel", name := "compare", desc := "(II)I" } : Jvm.MethodName))) ∈ allW := aw 783 (by decide +kernel) (by decide +kernel)
theorem im_X5_compare : ((Jvm.Cond.instanceMethod ({ cls := "ShareStatisticsModel", name := "compare", desc := "(II)I" } : Jvm.MethodName))) ∈ allW := aw 784 (by decide +kernel) (by decide +kernel)
theorem se_X5_compare : ((Jvm.Cond.selects "ShareStatisticsModel" ({ cls := "ShareStatisticsModel", name := "compare", desc := "(II)I" } : Jvm.MethodName) ({ cls := "ShareStatisticsModel", name := "compare", desc := "(II)I" } : Jvm.MethodName))) ∈ allW := aw 785 (by decide +kernel) (by decide +kernel)
theorem ml_L_X5_trend : ((Jvm.Cond.methodLink "ShareStatisticsLaw" (122 : Nat) ({ cls := "ShareStatisticsModel", name := "trend", desc := "(IIII)I" } : Jvm.MethodName))) ∈ allW := aw 787 (by decide +kernel) (by decide +kernel)
theorem im_X5_trend : ((Jvm.Cond.instanceMethod ({ cls := "ShareStatisticsModel", name := "trend", desc := "(IIII)I" } : Jvm.MethodName))) ∈ allW := aw 788 (by decide +kernel) (by decide +kernel)
theorem se_X5_trend : ((Jvm.Cond.selects "ShareStatisticsModel" ({ cls := "ShareStatisticsModel", name := "trend", desc := "(IIII)I" } : Jvm.MethodName) ({ cls := "ShareStatisticsModel", name := "trend", desc := "(IIII)I" } : Jvm.MethodName))) ∈ allW := aw 789 (by decide +kernel) (by decide +kernel)
theorem ml_X5_X5_gain : ((Jvm.Cond.methodLink "ShareStatisticsModel" (131 : Nat) ({ cls := "ShareStatisticsModel", name := "gain", desc := "(II)I" } : Jvm.MethodName))) ∈ allW := aw 791 (by decide +kernel) (by decide +kernel)
theorem im_X5_gain : ((Jvm.Cond.instanceMethod ({ cls := "ShareStatisticsModel", name := "gain", desc := "(II)I" } : Jvm.MethodName))) ∈ allW := aw 793 (by decide +kernel) (by decide +kernel)
theorem ml_X5_X5_ordersFrom : ((Jvm.Cond.methodLink "ShareStatisticsModel" (134 : Nat) ({ cls := "ShareStatisticsModel", name := "ordersFrom", desc := "(II)I" } : Jvm.MethodName))) ∈ allW := aw 795 (by decide +kernel) (by decide +kernel)
theorem im_X5_ordersFrom : ((Jvm.Cond.instanceMethod ({ cls := "ShareStatisticsModel", name := "ordersFrom", desc := "(II)I" } : Jvm.MethodName))) ∈ allW := aw 797 (by decide +kernel) (by decide +kernel)
theorem ml_L_X5_people : ((Jvm.Cond.methodLink "ShareStatisticsLaw" (126 : Nat) ({ cls := "ShareStatisticsModel", name := "people", desc := "(II)V" } : Jvm.MethodName))) ∈ allW := aw 799 (by decide +kernel) (by decide +kernel)
theorem im_X5_people : ((Jvm.Cond.instanceMethod ({ cls := "ShareStatisticsModel", name := "people", desc := "(II)V" } : Jvm.MethodName))) ∈ allW := aw 800 (by decide +kernel) (by decide +kernel)
theorem se_X5_people : ((Jvm.Cond.selects "ShareStatisticsModel" ({ cls := "ShareStatisticsModel", name := "people", desc := "(II)V" } : Jvm.MethodName) ({ cls := "ShareStatisticsModel", name := "people", desc := "(II)V" } : Jvm.MethodName))) ∈ allW := aw 801 (by decide +kernel) (by decide +kernel)
theorem ct_X5_137 : ((Jvm.Cond.constant "ShareStatisticsModel" (137 : Nat) (1000000 : Int32))) ∈ allW := aw 803 (by decide +kernel) (by decide +kernel)
theorem ml_L_X5_perThousand : ((Jvm.Cond.methodLink "ShareStatisticsLaw" (129 : Nat) ({ cls := "ShareStatisticsModel", name := "perThousand", desc := "(I)I" } : Jvm.MethodName))) ∈ allW := aw 804 (by decide +kernel) (by decide +kernel)
theorem im_X5_perThousand : ((Jvm.Cond.instanceMethod ({ cls := "ShareStatisticsModel", name := "perThousand", desc := "(I)I" } : Jvm.MethodName))) ∈ allW := aw 805 (by decide +kernel) (by decide +kernel)
theorem se_X5_perThousand : ((Jvm.Cond.selects "ShareStatisticsModel" ({ cls := "ShareStatisticsModel", name := "perThousand", desc := "(I)I" } : Jvm.MethodName) ({ cls := "ShareStatisticsModel", name := "perThousand", desc := "(I)I" } : Jvm.MethodName))) ∈ allW := aw 806 (by decide +kernel) (by decide +kernel)
theorem ml_X5_X5_rowsOf : ((Jvm.Cond.methodLink "ShareStatisticsModel" (138 : Nat) ({ cls := "ShareStatisticsModel", name := "rowsOf", desc := "(II)I" } : Jvm.MethodName))) ∈ allW := aw 808 (by decide +kernel) (by decide +kernel)
theorem im_X5_rowsOf : ((Jvm.Cond.instanceMethod ({ cls := "ShareStatisticsModel", name := "rowsOf", desc := "(II)I" } : Jvm.MethodName))) ∈ allW := aw 810 (by decide +kernel) (by decide +kernel)
theorem ml_L_X5_rank : ((Jvm.Cond.methodLink "ShareStatisticsLaw" (132 : Nat) ({ cls := "ShareStatisticsModel", name := "rank", desc := "(I)I" } : Jvm.MethodName))) ∈ allW := aw 812 (by decide +kernel) (by decide +kernel)
theorem im_X5_rank : ((Jvm.Cond.instanceMethod ({ cls := "ShareStatisticsModel", name := "rank", desc := "(I)I" } : Jvm.MethodName))) ∈ allW := aw 813 (by decide +kernel) (by decide +kernel)
theorem se_X5_rank : ((Jvm.Cond.selects "ShareStatisticsModel" ({ cls := "ShareStatisticsModel", name := "rank", desc := "(I)I" } : Jvm.MethodName) ({ cls := "ShareStatisticsModel", name := "rank", desc := "(I)I" } : Jvm.MethodName))) ∈ allW := aw 814 (by decide +kernel) (by decide +kernel)
theorem ml_L_X5_least : ((Jvm.Cond.methodLink "ShareStatisticsLaw" (136 : Nat) ({ cls := "ShareStatisticsModel", name := "least", desc := "(I)V" } : Jvm.MethodName))) ∈ allW := aw 816 (by decide +kernel) (by decide +kernel)
theorem im_X5_least : ((Jvm.Cond.instanceMethod ({ cls := "ShareStatisticsModel", name := "least", desc := "(I)V" } : Jvm.MethodName))) ∈ allW := aw 817 (by decide +kernel) (by decide +kernel)
theorem se_X5_least : ((Jvm.Cond.selects "ShareStatisticsModel" ({ cls := "ShareStatisticsModel", name := "least", desc := "(I)V" } : Jvm.MethodName) ({ cls := "ShareStatisticsModel", name := "least", desc := "(I)V" } : Jvm.MethodName))) ∈ allW := aw 818 (by decide +kernel) (by decide +kernel)
theorem ml_L_X5_shown : ((Jvm.Cond.methodLink "ShareStatisticsLaw" (139 : Nat) ({ cls := "ShareStatisticsModel", name := "shown", desc := "(I)I" } : Jvm.MethodName))) ∈ allW := aw 820 (by decide +kernel) (by decide +kernel)
theorem im_X5_shown : ((Jvm.Cond.instanceMethod ({ cls := "ShareStatisticsModel", name := "shown", desc := "(I)I" } : Jvm.MethodName))) ∈ allW := aw 821 (by decide +kernel) (by decide +kernel)
theorem se_X5_shown : ((Jvm.Cond.selects "ShareStatisticsModel" ({ cls := "ShareStatisticsModel", name := "shown", desc := "(I)I" } : Jvm.MethodName) ({ cls := "ShareStatisticsModel", name := "shown", desc := "(I)I" } : Jvm.MethodName))) ∈ allW := aw 822 (by decide +kernel) (by decide +kernel)
theorem ml_X5_X5_join : ((Jvm.Cond.methodLink "ShareStatisticsModel" (141 : Nat) ({ cls := "ShareStatisticsModel", name := "join", desc := "()I" } : Jvm.MethodName))) ∈ allW := aw 824 (by decide +kernel) (by decide +kernel)
theorem im_X5_join : ((Jvm.Cond.instanceMethod ({ cls := "ShareStatisticsModel", name := "join", desc := "()I" } : Jvm.MethodName))) ∈ allW := aw 826 (by decide +kernel) (by decide +kernel)
theorem ml_L_X5_joined : ((Jvm.Cond.methodLink "ShareStatisticsLaw" (143 : Nat) ({ cls := "ShareStatisticsModel", name := "joined", desc := "()I" } : Jvm.MethodName))) ∈ allW := aw 828 (by decide +kernel) (by decide +kernel)
theorem im_X5_joined : ((Jvm.Cond.instanceMethod ({ cls := "ShareStatisticsModel", name := "joined", desc := "()I" } : Jvm.MethodName))) ∈ allW := aw 829 (by decide +kernel) (by decide +kernel)
theorem se_X5_joined : ((Jvm.Cond.selects "ShareStatisticsModel" ({ cls := "ShareStatisticsModel", name := "joined", desc := "()I" } : Jvm.MethodName) ({ cls := "ShareStatisticsModel", name := "joined", desc := "()I" } : Jvm.MethodName))) ∈ allW := aw 830 (by decide +kernel) (by decide +kernel)
theorem ml_L_X5_work : ((Jvm.Cond.methodLink "ShareStatisticsLaw" (146 : Nat) ({ cls := "ShareStatisticsModel", name := "work", desc := "(II)I" } : Jvm.MethodName))) ∈ allW := aw 832 (by decide +kernel) (by decide +kernel)
theorem im_X5_work : ((Jvm.Cond.instanceMethod ({ cls := "ShareStatisticsModel", name := "work", desc := "(II)I" } : Jvm.MethodName))) ∈ allW := aw 833 (by decide +kernel) (by decide +kernel)
theorem se_X5_work : ((Jvm.Cond.selects "ShareStatisticsModel" ({ cls := "ShareStatisticsModel", name := "work", desc := "(II)I" } : Jvm.MethodName) ({ cls := "ShareStatisticsModel", name := "work", desc := "(II)I" } : Jvm.MethodName))) ∈ allW := aw 834 (by decide +kernel) (by decide +kernel)
theorem ac_long : ((Jvm.Cond.arrayClass Jvm.ClassFile.FieldType.long)) ∈ allW := aw 836 (by decide +kernel) (by decide +kernel)
theorem se_X0_isLastOfItsDay : (Cond.selects RX0 yX0_isLastOfItsDay yX0_isLastOfItsDay) ∈ allW := aw 0 (by decide +kernel) (by decide +kernel)
theorem se_X1_isAsked : (Cond.selects RX1 yX1_isAsked yX1_isAsked) ∈ allW := aw 1 (by decide +kernel) (by decide +kernel)
theorem se_X1_isHidden : (Cond.selects RX1 yX1_isHidden yX1_isHidden) ∈ allW := aw 2 (by decide +kernel) (by decide +kernel)
theorem se_X1_isInSpan : (Cond.selects RX1 yX1_isInSpan yX1_isInSpan) ∈ allW := aw 3 (by decide +kernel) (by decide +kernel)
theorem se_X2_joinMore : (Cond.selects RX2 yX2_joinMore yX2_joinMore) ∈ allW := aw 4 (by decide +kernel) (by decide +kernel)
theorem se_X2_areaOfFewest : (Cond.selects RX2 yX2_areaOfFewest yX2_areaOfFewest) ∈ allW := aw 5 (by decide +kernel) (by decide +kernel)
theorem se_X4_askedTotal : (Cond.selects RX4 yX4_askedTotal yX4_askedTotal) ∈ allW := aw 7 (by decide +kernel) (by decide +kernel)
theorem se_X1_amount : (Cond.selects RX1 yX1_amount yX1_amount) ∈ allW := aw 8 (by decide +kernel) (by decide +kernel)
theorem se_X1_isWithin : (Cond.selects RX1 yX1_isWithin yX1_isWithin) ∈ allW := aw 9 (by decide +kernel) (by decide +kernel)
theorem se_X1_isWithout : (Cond.selects RX1 yX1_isWithout yX1_isWithout) ∈ allW := aw 10 (by decide +kernel) (by decide +kernel)
theorem se_X1_hasBothValues : (Cond.selects RX1 yX1_hasBothValues yX1_hasBothValues) ∈ allW := aw 11 (by decide +kernel) (by decide +kernel)
theorem se_X4_rowsWithin : (Cond.selects RX4 yX4_rowsWithin yX4_rowsWithin) ∈ allW := aw 12 (by decide +kernel) (by decide +kernel)
theorem se_X4_rowsNotWithout : (Cond.selects RX4 yX4_rowsNotWithout yX4_rowsNotWithout) ∈ allW := aw 13 (by decide +kernel) (by decide +kernel)
theorem se_X1_sortIn : (Cond.selects RX1 yX1_sortIn yX1_sortIn) ∈ allW := aw 14 (by decide +kernel) (by decide +kernel)
theorem se_X4_rowsOfArea : (Cond.selects RX4 yX4_rowsOfArea yX4_rowsOfArea) ∈ allW := aw 15 (by decide +kernel) (by decide +kernel)
theorem se_X1_isWork : (Cond.selects RX1 yX1_isWork yX1_isWork) ∈ allW := aw 16 (by decide +kernel) (by decide +kernel)
theorem se_X5_throwing : (Cond.selects RX5 yX5_throwing yX5_throwing) ∈ allW := aw 17 (by decide +kernel) (by decide +kernel)
theorem se_X5_thrownBy : (Cond.selects RX5 yX5_thrownBy yX5_thrownBy) ∈ allW := aw 18 (by decide +kernel) (by decide +kernel)
theorem se_X5_isAsked : (Cond.selects RX5 yX5_isAsked yX5_isAsked) ∈ allW := aw 19 (by decide +kernel) (by decide +kernel)
theorem se_X5_fits : (Cond.selects RX5 yX5_fits yX5_fits) ∈ allW := aw 20 (by decide +kernel) (by decide +kernel)
theorem se_X5_isWithin : (Cond.selects RX5 yX5_isWithin yX5_isWithin) ∈ allW := aw 21 (by decide +kernel) (by decide +kernel)
theorem se_X5_isWithout : (Cond.selects RX5 yX5_isWithout yX5_isWithout) ∈ allW := aw 22 (by decide +kernel) (by decide +kernel)
theorem se_X5_hasBoth : (Cond.selects RX5 yX5_hasBoth yX5_hasBoth) ∈ allW := aw 23 (by decide +kernel) (by decide +kernel)
theorem se_X5_markOf : (Cond.selects RX5 yX5_markOf yX5_markOf) ∈ allW := aw 24 (by decide +kernel) (by decide +kernel)
theorem se_X5_sharesOf : (Cond.selects RX5 yX5_sharesOf yX5_sharesOf) ∈ allW := aw 25 (by decide +kernel) (by decide +kernel)
theorem se_X5_sumOf : (Cond.selects RX5 yX5_sumOf yX5_sumOf) ∈ allW := aw 26 (by decide +kernel) (by decide +kernel)
theorem se_X5_gain : (Cond.selects RX5 yX5_gain yX5_gain) ∈ allW := aw 27 (by decide +kernel) (by decide +kernel)
theorem se_X5_ordersFrom : (Cond.selects RX5 yX5_ordersFrom yX5_ordersFrom) ∈ allW := aw 28 (by decide +kernel) (by decide +kernel)
theorem se_X5_rowsOf : (Cond.selects RX5 yX5_rowsOf yX5_rowsOf) ∈ allW := aw 29 (by decide +kernel) (by decide +kernel)
theorem se_X5_join : (Cond.selects RX5 yX5_join yX5_join) ∈ allW := aw 30 (by decide +kernel) (by decide +kernel)
