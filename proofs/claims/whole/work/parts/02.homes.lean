/-- words that stay true when tables warm -/
def wOK (w : Cond) : Bool := match w with
  | .fieldLinkNest .. => true
  | .methodLinkNest .. => true
  | .declares _ => true
  | .castable .. => true
  | .privateMethod _ => true
  | .arrayOver (.object _) => true
  | w => goodWord w
def lw_t2 : List Cond := lw_tbl.filter wOK
theorem lw_at {w : Cond} (i : Nat) (h : lw_tbl[i]? = some w) (hw : wOK w = true) : w ∈ lw_t2 := List.mem_filter.mpr ⟨List.mem_of_getElem? h, hw⟩
def homes : List String := ["PlanJudgeLaw", "PlanJudge", "java/lang/Object", "PlanJudge$Fractions", "java/util/Arrays", "PlanJudge$Task", "java/util/ArrayList", "java/util/AbstractList", "java/util/AbstractCollection", "PlanJudge$State", "PlanJudge$Plan", "PlanJudge$Verdict", "PlanJudge$Judge", "PlanJudge$Arranger", "java/lang/Math", "java/util/Objects", "jdk/internal/util/Preconditions", "PlanJudge$Action", "java/lang/Throwable", "java/lang/IllegalArgumentException", "java/lang/RuntimeException", "java/lang/Exception", "java/lang/IndexOutOfBoundsException", "java/lang/IllegalStateException", "PlanJudge$Terms", "jdk/internal/util/ArraysSupport", "PlanJudgeModel"]
def T_0 : u_T := fun k => match k with
  | 0 => ("PlanJudge", "hand", "LPlanJudge$Fractions;", true)
  | 1 => ("PlanJudge", "task", "LPlanJudge$Task;", true)
  | 2 => ("PlanJudge", "plan", "LPlanJudge$Plan;", true)
  | 3 => ("PlanJudge", "verdict", "LPlanJudge$Verdict;", true)
  | 4 => ("PlanJudge", "bench", "LPlanJudge$Judge;", true)
  | _ => ("PlanJudge", "arranger", "LPlanJudge$Arranger;", true)
def ty_0 : Nat → FieldType := fun k => match k with
  | 0 => .object "PlanJudge$Fractions"
  | 1 => .object "PlanJudge$Task"
  | 2 => .object "PlanJudge$Plan"
  | 3 => .object "PlanJudge$Verdict"
  | 4 => .object "PlanJudge$Judge"
  | _ => .object "PlanJudge$Arranger"
def T_1 : u_T := fun k => match k with
  | 0 => ("PlanJudge$Action", "needs", "I", false)
  | 1 => ("PlanJudge$Action", "changes", "I", false)
  | 2 => ("PlanJudge$Action", "needTrue", "[I", true)
  | 3 => ("PlanJudge$Action", "needFalse", "[I", true)
  | 4 => ("PlanJudge$Action", "comparisons", "LPlanJudge$Terms;", true)
  | 5 => ("PlanJudge$Action", "makeTrue", "[I", true)
  | 6 => ("PlanJudge$Action", "makeFalse", "[I", true)
  | 7 => ("PlanJudge$Action", "alterations", "LPlanJudge$Terms;", true)
  | 8 => ("PlanJudge$Action", "changed", "[I", true)
  | 9 => ("PlanJudge$Action", "seenAt", "[I", true)
  | 10 => ("PlanJudge$Action", "measured", "I", false)
  | 11 => ("PlanJudge$Action", "durationNumber", "[I", true)
  | _ => ("PlanJudge$Action", "duration", "LPlanJudge$Fractions;", true)
def ty_1 : Nat → FieldType := fun k => match k with
  | 0 => .int
  | 1 => .int
  | 2 => .array .int
  | 3 => .array .int
  | 4 => .object "PlanJudge$Terms"
  | 5 => .array .int
  | 6 => .array .int
  | 7 => .object "PlanJudge$Terms"
  | 8 => .array .int
  | 9 => .array .int
  | 10 => .int
  | 11 => .array .int
  | _ => .object "PlanJudge$Fractions"
def T_2 : u_T := fun k => match k with
  | 0 => ("PlanJudge$Arranger", "states", "[LPlanJudge$State;", true)
  | 1 => ("PlanJudge$Arranger", "points", "I", false)
  | 2 => ("PlanJudge$Arranger", "row", "[I", true)
  | 3 => ("PlanJudge$Arranger", "latestInterfering", "[I", true)
  | 4 => ("PlanJudge$Arranger", "times", "[J", true)
  | 5 => ("PlanJudge$Arranger", "begunSteps", "I", false)
  | 6 => ("PlanJudge$Arranger", "openMask", "I", false)
  | 7 => ("PlanJudge$Arranger", "actionOf", "[I", true)
  | 8 => ("PlanJudge$Arranger", "startAt", "[I", true)
  | 9 => ("PlanJudge$Arranger", "least", "LPlanJudge$Fractions;", true)
  | 10 => ("PlanJudge$Arranger", "greatest", "LPlanJudge$Fractions;", true)
  | 11 => ("PlanJudge$Arranger", "hasGreatest", "[Z", true)
  | 12 => ("PlanJudge$Arranger", "leastUnits", "[J", true)
  | 13 => ("PlanJudge$Arranger", "greatestUnits", "[J", true)
  | 14 => ("PlanJudge$Arranger", "unit", "J", false)
  | 15 => ("PlanJudge$Arranger", "shared", "LPlanJudge$Fractions;", true)
  | _ => ("PlanJudge$Arranger", "faultPoint", "I", false)
def ty_2 : Nat → FieldType := fun k => match k with
  | 0 => .array (.object "PlanJudge$State")
  | 1 => .int
  | 2 => .array .int
  | 3 => .array .int
  | 4 => .array .long
  | 5 => .int
  | 6 => .int
  | 7 => .array .int
  | 8 => .array .int
  | 9 => .object "PlanJudge$Fractions"
  | 10 => .object "PlanJudge$Fractions"
  | 11 => .array .boolean
  | 12 => .array .long
  | 13 => .array .long
  | 14 => .long
  | 15 => .object "PlanJudge$Fractions"
  | _ => .int
def T_3 : u_T := fun k => match k with
  | 0 => ("PlanJudge$Fractions", "up", "[J", true)
  | _ => ("PlanJudge$Fractions", "down", "[J", true)
def ty_3 : Nat → FieldType := fun k => match k with
  | 0 => .array .long
  | _ => .array .long
def T_4 : u_T := fun k => match k with
  | 0 => ("PlanJudge$Judge", "times", "LPlanJudge$Fractions;", true)
  | 1 => ("PlanJudge$Judge", "order", "[I", true)
  | 2 => ("PlanJudge$Judge", "scratch", "LPlanJudge$Fractions;", true)
  | 3 => ("PlanJudge$Judge", "now", "LPlanJudge$State;", true)
  | 4 => ("PlanJudge$Judge", "next", "LPlanJudge$State;", true)
  | 5 => ("PlanJudge$Judge", "openMask", "I", false)
  | _ => ("PlanJudge$Judge", "faultPoint", "I", false)
def ty_4 : Nat → FieldType := fun k => match k with
  | 0 => .object "PlanJudge$Fractions"
  | 1 => .array .int
  | 2 => .object "PlanJudge$Fractions"
  | 3 => .object "PlanJudge$State"
  | 4 => .object "PlanJudge$State"
  | 5 => .int
  | _ => .int
def T_5 : u_T := fun k => match k with
  | 0 => ("PlanJudge$Plan", "steps", "I", false)
  | 1 => ("PlanJudge$Plan", "actionOf", "[I", true)
  | 2 => ("PlanJudge$Plan", "begins", "LPlanJudge$Fractions;", true)
  | 3 => ("PlanJudge$Plan", "lasts", "LPlanJudge$Fractions;", true)
  | 4 => ("PlanJudge$Plan", "points", "I", false)
  | 5 => ("PlanJudge$Plan", "row", "[I", true)
  | _ => ("PlanJudge$Plan", "inRow", "I", false)
def ty_5 : Nat → FieldType := fun k => match k with
  | 0 => .int
  | 1 => .array .int
  | 2 => .object "PlanJudge$Fractions"
  | 3 => .object "PlanJudge$Fractions"
  | 4 => .int
  | 5 => .array .int
  | _ => .int
def T_6 : u_T := fun k => match k with
  | 0 => ("PlanJudge$State", "facts", "I", false)
  | _ => ("PlanJudge$State", "numbers", "LPlanJudge$Fractions;", true)
def ty_6 : Nat → FieldType := fun k => match k with
  | 0 => .int
  | _ => .object "PlanJudge$Fractions"
def T_7 : u_T := fun k => match k with
  | 0 => ("PlanJudge$Task", "actions", "Ljava/util/ArrayList;", true)
  | 1 => ("PlanJudge$Task", "first", "LPlanJudge$State;", true)
  | 2 => ("PlanJudge$Task", "epsilon", "LPlanJudge$Fractions;", true)
  | 3 => ("PlanJudge$Task", "goalTrue", "I", false)
  | 4 => ("PlanJudge$Task", "goalFalse", "I", false)
  | 5 => ("PlanJudge$Task", "goalHow", "[I", true)
  | _ => ("PlanJudge$Task", "goalWith", "LPlanJudge$Fractions;", true)
def ty_7 : Nat → FieldType := fun k => match k with
  | 0 => .object "java/util/ArrayList"
  | 1 => .object "PlanJudge$State"
  | 2 => .object "PlanJudge$Fractions"
  | 3 => .int
  | 4 => .int
  | 5 => .array .int
  | _ => .object "PlanJudge$Fractions"
def T_8 : u_T := fun k => match k with
  | 0 => ("PlanJudge$Terms", "size", "I", false)
  | 1 => ("PlanJudge$Terms", "time", "[I", true)
  | 2 => ("PlanJudge$Terms", "number", "[I", true)
  | 3 => ("PlanJudge$Terms", "kind", "[I", true)
  | _ => ("PlanJudge$Terms", "by", "LPlanJudge$Fractions;", true)
def ty_8 : Nat → FieldType := fun k => match k with
  | 0 => .int
  | 1 => .array .int
  | 2 => .array .int
  | 3 => .array .int
  | _ => .object "PlanJudge$Fractions"
def T_9 : u_T := fun k => match k with
  | 0 => ("PlanJudge$Verdict", "isWritten", "Z", false)
  | 1 => ("PlanJudge$Verdict", "fault", "I", false)
  | 2 => ("PlanJudge$Verdict", "point", "I", false)
  | _ => ("PlanJudge$Verdict", "state", "LPlanJudge$State;", true)
def ty_9 : Nat → FieldType := fun k => match k with
  | 0 => .boolean
  | 1 => .int
  | 2 => .int
  | _ => .object "PlanJudge$State"
def T_10 : u_T := fun k => match k with
  | 0 => ("PlanJudgeModel", "code", "I", false)
  | 1 => ("PlanJudgeModel", "amountN", "J", false)
  | 2 => ("PlanJudgeModel", "amountD", "J", false)
  | 3 => ("PlanJudgeModel", "momentN", "J", false)
  | 4 => ("PlanJudgeModel", "momentD", "J", false)
  | 5 => ("PlanJudgeModel", "epsilonN", "J", false)
  | 6 => ("PlanJudgeModel", "epsilonD", "J", false)
  | 7 => ("PlanJudgeModel", "firstFacts", "[Z", true)
  | 8 => ("PlanJudgeModel", "firstN", "[J", true)
  | 9 => ("PlanJudgeModel", "firstD", "[J", true)
  | 10 => ("PlanJudgeModel", "wishes", "[I", true)
  | 11 => ("PlanJudgeModel", "wants", "[I", true)
  | 12 => ("PlanJudgeModel", "wantN", "[J", true)
  | 13 => ("PlanJudgeModel", "wantD", "[J", true)
  | 14 => ("PlanJudgeModel", "actions", "I", false)
  | 15 => ("PlanJudgeModel", "needs", "[I", true)
  | 16 => ("PlanJudgeModel", "needTime", "[I", true)
  | 17 => ("PlanJudgeModel", "needOf", "[I", true)
  | 18 => ("PlanJudgeModel", "needHow", "[I", true)
  | 19 => ("PlanJudgeModel", "needN", "[J", true)
  | 20 => ("PlanJudgeModel", "needD", "[J", true)
  | 21 => ("PlanJudgeModel", "changes", "[I", true)
  | 22 => ("PlanJudgeModel", "changeTime", "[I", true)
  | 23 => ("PlanJudgeModel", "changeOf", "[I", true)
  | 24 => ("PlanJudgeModel", "changeHow", "[I", true)
  | 25 => ("PlanJudgeModel", "changeN", "[J", true)
  | 26 => ("PlanJudgeModel", "changeD", "[J", true)
  | 27 => ("PlanJudgeModel", "lastOf", "[I", true)
  | 28 => ("PlanJudgeModel", "lastN", "[J", true)
  | 29 => ("PlanJudgeModel", "lastD", "[J", true)
  | 30 => ("PlanJudgeModel", "steps", "I", false)
  | 31 => ("PlanJudgeModel", "stepAction", "[I", true)
  | 32 => ("PlanJudgeModel", "startN", "[J", true)
  | 33 => ("PlanJudgeModel", "startD", "[J", true)
  | 34 => ("PlanJudgeModel", "lengthN", "[J", true)
  | 35 => ("PlanJudgeModel", "lengthD", "[J", true)
  | 36 => ("PlanJudgeModel", "rows", "I", false)
  | 37 => ("PlanJudgeModel", "row", "[I", true)
  | 38 => ("PlanJudgeModel", "tried", "I", false)
  | 39 => ("PlanJudgeModel", "triedAction", "[I", true)
  | 40 => ("PlanJudgeModel", "triedRows", "I", false)
  | 41 => ("PlanJudgeModel", "triedRow", "[I", true)
  | 42 => ("PlanJudgeModel", "times", "[J", true)
  | 43 => ("PlanJudgeModel", "unit", "J", false)
  | 44 => ("PlanJudgeModel", "facts", "[Z", true)
  | 45 => ("PlanJudgeModel", "numN", "[J", true)
  | 46 => ("PlanJudgeModel", "numD", "[J", true)
  | 47 => ("PlanJudgeModel", "oldFacts", "[Z", true)
  | 48 => ("PlanJudgeModel", "oldN", "[J", true)
  | 49 => ("PlanJudgeModel", "oldD", "[J", true)
  | 50 => ("PlanJudgeModel", "point", "I", false)
  | 51 => ("PlanJudgeModel", "judged", "Z", false)
  | 52 => ("PlanJudgeModel", "fault", "I", false)
  | 53 => ("PlanJudgeModel", "faultPoint", "I", false)
  | 54 => ("PlanJudgeModel", "toldFacts", "[Z", true)
  | 55 => ("PlanJudgeModel", "toldN", "[J", true)
  | 56 => ("PlanJudgeModel", "toldD", "[J", true)
  | 57 => ("PlanJudgeModel", "outN", "J", false)
  | 58 => ("PlanJudgeModel", "outD", "J", false)
  | 59 => ("PlanJudgeModel", "pointN", "[J", true)
  | 60 => ("PlanJudgeModel", "pointD", "[J", true)
  | 61 => ("PlanJudgeModel", "gone", "[Z", true)
  | 62 => ("PlanJudgeModel", "now", "[Z", true)
  | 63 => ("PlanJudgeModel", "leastN", "[J", true)
  | 64 => ("PlanJudgeModel", "leastD", "[J", true)
  | 65 => ("PlanJudgeModel", "greatestN", "[J", true)
  | 66 => ("PlanJudgeModel", "greatestD", "[J", true)
  | _ => ("PlanJudgeModel", "events", "[I", true)
def ty_10 : Nat → FieldType := fun k => match k with
  | 0 => .int
  | 1 => .long
  | 2 => .long
  | 3 => .long
  | 4 => .long
  | 5 => .long
  | 6 => .long
  | 7 => .array .boolean
  | 8 => .array .long
  | 9 => .array .long
  | 10 => .array .int
  | 11 => .array .int
  | 12 => .array .long
  | 13 => .array .long
  | 14 => .int
  | 15 => .array .int
  | 16 => .array .int
  | 17 => .array .int
  | 18 => .array .int
  | 19 => .array .long
  | 20 => .array .long
  | 21 => .array .int
  | 22 => .array .int
  | 23 => .array .int
  | 24 => .array .int
  | 25 => .array .long
  | 26 => .array .long
  | 27 => .array .int
  | 28 => .array .long
  | 29 => .array .long
  | 30 => .int
  | 31 => .array .int
  | 32 => .array .long
  | 33 => .array .long
  | 34 => .array .long
  | 35 => .array .long
  | 36 => .int
  | 37 => .array .int
  | 38 => .int
  | 39 => .array .int
  | 40 => .int
  | 41 => .array .int
  | 42 => .array .long
  | 43 => .long
  | 44 => .array .boolean
  | 45 => .array .long
  | 46 => .array .long
  | 47 => .array .boolean
  | 48 => .array .long
  | 49 => .array .long
  | 50 => .int
  | 51 => .boolean
  | 52 => .int
  | 53 => .int
  | 54 => .array .boolean
  | 55 => .array .long
  | 56 => .array .long
  | 57 => .long
  | 58 => .long
  | 59 => .array .long
  | 60 => .array .long
  | 61 => .array .boolean
  | 62 => .array .boolean
  | 63 => .array .long
  | 64 => .array .long
  | 65 => .array .long
  | 66 => .array .long
  | _ => .array .int
def T_11 : u_T := fun k => match k with
  | 0 => ("java/util/ArrayList", "elementData", "[Ljava/lang/Object;", false)
  | 1 => ("java/util/ArrayList", "size", "I", false)
  | _ => ("java/util/AbstractList", "modCount", "I", false)
def ty_11 : Nat → FieldType := fun k => match k with
  | 0 => .array (.object "java/lang/Object")
  | 1 => .int
  | _ => .int
def T_12 : u_T := fun k => match k with
  | _ => ("", "", "", false)
def ty_12 : Nat → FieldType := fun k => match k with
  | _ => .int
def T_13 : u_T := fun k => match k with
  | _ => ("", "", "", false)
def ty_13 : Nat → FieldType := fun k => match k with
  | _ => .int
def T_14 : u_T := fun k => match k with
  | _ => ("", "", "", false)
def ty_14 : Nat → FieldType := fun k => match k with
  | _ => .int
def CLs : List vw_C := [("PlanJudge", T_0, 6), ("PlanJudge$Action", T_1, 13), ("PlanJudge$Arranger", T_2, 17), ("PlanJudge$Fractions", T_3, 2), ("PlanJudge$Judge", T_4, 7), ("PlanJudge$Plan", T_5, 7), ("PlanJudge$State", T_6, 2), ("PlanJudge$Task", T_7, 7), ("PlanJudge$Terms", T_8, 5), ("PlanJudge$Verdict", T_9, 4), ("PlanJudgeModel", T_10, 68), ("java/util/ArrayList", T_11, 3), ("java/lang/IllegalArgumentException", T_12, 0), ("java/lang/IndexOutOfBoundsException", T_13, 0), ("java/lang/IllegalStateException", T_14, 0)]
def tys : List (Nat → FieldType) := [ty_0, ty_1, ty_2, ty_3, ty_4, ty_5, ty_6, ty_7, ty_8, ty_9, ty_10, ty_11, ty_12, ty_13, ty_14]
def okC (ci : Nat) (C : String) (T : u_T) (N n : Nat) (ty : Nat → FieldType) : Prop := CLs[ci]? = some (C, T, N) ∧ (∀ w ∈ u_ws C T N, w ∈ lw_t2) ∧ (∀ k, k < N → parseFieldDescriptor (T k).2.2.1 = some (ty k)) ∧ (∀ a, a < N → ∀ b, b < N → a ≠ b → (T a).2.1 ≠ (T b).2.1) ∧ Cond.instantiable C n ∈ lw_t2 ∧ Cond.initialized C ∈ lw_t2 ∧ N ≤ n ∧ n ≤ 100
theorem in_places (ws : List Cond) (ps : List Nat) (h : ws = ps.filterMap (fun i => lw_tbl[i]?)) (h2 : ws.all wOK = true) : ∀ w ∈ ws, w ∈ lw_t2 := by
  intro w hw
  have h3 := List.all_eq_true.mp h2 w hw
  rw [h] at hw
  obtain ⟨i, -, hi⟩ := List.mem_filterMap.mp hw
  exact List.mem_filter.mpr ⟨List.mem_of_getElem? hi, h3⟩
theorem okC_0 : okC 0 "PlanJudge" T_0 6 6 ty_0 := ⟨rfl, in_places _ [396, 398, 400, 402, 404, 406] (by decide +kernel) (by decide +kernel), by decide +kernel, by decide +kernel, lw_at 93 (by decide +kernel) rfl, lw_at 66 (by decide +kernel) rfl, by decide, by decide⟩
theorem okC_1 : okC 1 "PlanJudge$Action" T_1 13 13 ty_1 := ⟨rfl, in_places _ [806, 808, 810, 812, 814, 816, 818, 820, 822, 824, 826, 828, 830] (by decide +kernel) (by decide +kernel), by decide +kernel, by decide +kernel, lw_at 753 (by decide +kernel) rfl, lw_at 85 (by decide +kernel) rfl, by decide, by decide⟩
theorem okC_2 : okC 2 "PlanJudge$Arranger" T_2 17 17 ty_2 := ⟨rfl, in_places _ [354, 356, 358, 360, 362, 364, 366, 368, 370, 372, 374, 376, 378, 380, 382, 384, 386] (by decide +kernel) (by decide +kernel), by decide +kernel, by decide +kernel, lw_at 324 (by decide +kernel) rfl, lw_at 77 (by decide +kernel) rfl, by decide, by decide⟩
theorem okC_3 : okC 3 "PlanJudge$Fractions" T_3 2 2 ty_3 := ⟨rfl, in_places _ [117, 119] (by decide +kernel) (by decide +kernel), by decide +kernel, by decide +kernel, lw_at 101 (by decide +kernel) rfl, lw_at 67 (by decide +kernel) rfl, by decide, by decide⟩
theorem okC_4 : okC 4 "PlanJudge$Judge" T_4 7 7 ty_4 := ⟨rfl, in_places _ [308, 310, 312, 314, 316, 318, 320] (by decide +kernel) (by decide +kernel), by decide +kernel, by decide +kernel, lw_at 290 (by decide +kernel) rfl, lw_at 76 (by decide +kernel) rfl, by decide, by decide⟩
theorem okC_5 : okC 5 "PlanJudge$Plan" T_5 7 7 ty_5 := ⟨rfl, in_places _ [249, 251, 253, 255, 257, 259, 261] (by decide +kernel) (by decide +kernel), by decide +kernel, by decide +kernel, lw_at 220 (by decide +kernel) rfl, lw_at 74 (by decide +kernel) rfl, by decide, by decide⟩
theorem okC_6 : okC 6 "PlanJudge$State" T_6 2 2 ty_6 := ⟨rfl, in_places _ [170, 172] (by decide +kernel) (by decide +kernel), by decide +kernel, by decide +kernel, lw_at 156 (by decide +kernel) rfl, lw_at 73 (by decide +kernel) rfl, by decide, by decide⟩
theorem okC_7 : okC 7 "PlanJudge$Task" T_7 7 7 ty_7 := ⟨rfl, in_places _ [203, 205, 207, 209, 211, 213, 215] (by decide +kernel) (by decide +kernel), by decide +kernel, by decide +kernel, lw_at 124 (by decide +kernel) rfl, lw_at 69 (by decide +kernel) rfl, by decide, by decide⟩
theorem okC_8 : okC 8 "PlanJudge$Terms" T_8 5 5 ty_8 := ⟨rfl, in_places _ [776, 778, 780, 782, 784] (by decide +kernel) (by decide +kernel), by decide +kernel, by decide +kernel, lw_at 759 (by decide +kernel) rfl, lw_at 86 (by decide +kernel) rfl, by decide, by decide⟩
theorem okC_9 : okC 9 "PlanJudge$Verdict" T_9 4 4 ty_9 := ⟨rfl, in_places _ [280, 282, 284, 286] (by decide +kernel) (by decide +kernel), by decide +kernel, by decide +kernel, lw_at 265 (by decide +kernel) rfl, lw_at 75 (by decide +kernel) rfl, by decide, by decide⟩
theorem okC_10 : okC 10 "PlanJudgeModel" T_10 68 68 ty_10 := ⟨rfl, in_places _ [1231, 1233, 1235, 1237, 1239, 1241, 1243, 1245, 1247, 1249, 1251, 1253, 1255, 1257, 1259, 1261, 1263, 1265, 1267, 1269, 1271, 1273, 1275, 1277, 1279, 1281, 1283, 1285, 1287, 1289, 1291, 1293, 1295, 1297, 1299, 1301, 1303, 1305, 1307, 1309, 1311, 1313, 1315, 1317, 1319, 1321, 1323, 1325, 1327, 1329, 1331, 1333, 1335, 1337, 1339, 1341, 1343, 1345, 1347, 1349, 1351, 1353, 1355, 1357, 1359, 1361, 1363, 1365] (by decide +kernel) (by decide +kernel), by decide +kernel, by decide +kernel, lw_at 1157 (by decide +kernel) rfl, lw_at 78 (by decide +kernel) rfl, by decide, by decide⟩
theorem okC_11 : okC 11 "java/util/ArrayList" T_11 3 3 ty_11 := ⟨rfl, in_places _ [148, 150, 152] (by decide +kernel) (by decide +kernel), by decide +kernel, by decide +kernel, lw_at 130 (by decide +kernel) rfl, lw_at 72 (by decide +kernel) rfl, by decide, by decide⟩
theorem okC_12 : okC 12 "java/lang/IllegalArgumentException" T_12 0 6 ty_12 := ⟨rfl, in_places _ [] (by decide +kernel) (by decide +kernel), by decide +kernel, by decide +kernel, lw_at 589 (by decide +kernel) rfl, lw_at 82 (by decide +kernel) rfl, by decide, by decide⟩
theorem okC_13 : okC 13 "java/lang/IndexOutOfBoundsException" T_13 0 6 ty_13 := ⟨rfl, in_places _ [] (by decide +kernel) (by decide +kernel), by decide +kernel, by decide +kernel, lw_at 679 (by decide +kernel) rfl, lw_at 83 (by decide +kernel) rfl, by decide, by decide⟩
theorem okC_14 : okC 14 "java/lang/IllegalStateException" T_14 0 6 ty_14 := ⟨rfl, in_places _ [] (by decide +kernel) (by decide +kernel), by decide +kernel, by decide +kernel, lw_at 738 (by decide +kernel) rfl, lw_at 84 (by decide +kernel) rfl, by decide, by decide⟩
