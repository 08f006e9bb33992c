abbrev MI : Type := MethodName × ByteArray × Nat × Option FieldType × Nat × Bool × List (Nat × Nat × Nat × Nat)
abbrev mY (M : MI) : MethodName := M.1
abbrev mB (M : MI) : ByteArray := M.2.1
abbrev mL (M : MI) : Nat := M.2.2.1
abbrev mR (M : MI) : Option FieldType := M.2.2.2.1
abbrev mH (M : MI) : Nat := M.2.2.2.2.1
abbrev mI (M : MI) : Bool := M.2.2.2.2.2.1
abbrev mX (M : MI) : List (Nat × Nat × Nat × Nat) := M.2.2.2.2.2.2
def okMI (M : MI) : Prop := homes[mH M]? = some (mY M).cls ∧ plainFor (mY M) = true ∧ ((mX M = [] ∧ Cond.code (mY M) (mB M) (mL M) (mR M) ∈ lw_t2) ∨ (mX M ≠ [] ∧ Cond.codeWith (mY M) (mB M) (mL M) (mR M) (mX M) ∈ lw_t2)) ∧ Cond.initialized (mY M).cls ∈ lw_t2 ∧ (mI M = true → (mY M).name = "<init>") ∧ mL M ≤ 30
def m_PJ_init : MI := (⟨"PlanJudge", "<init>", "()V"⟩, prog_1_method_1_code, 1, (Option.none : Option Jvm.ClassFile.FieldType), 1, true, [])
set_option maxRecDepth 20000 in
theorem ok_PJ_init : okMI m_PJ_init := ⟨rfl, by decide +kernel, Or.inl ⟨rfl, lw_at 96 rfl rfl⟩, lw_at 66 (by decide +kernel) rfl, fun _ => rfl, by decide⟩
def m_Fractions_init : MI := (⟨"PlanJudge$Fractions", "<init>", "(I)V"⟩, prog_4_method_1_code, 2, (Option.none : Option Jvm.ClassFile.FieldType), 3, true, [])
set_option maxRecDepth 20000 in
theorem ok_Fractions_init : okMI m_Fractions_init := ⟨rfl, by decide +kernel, Or.inl ⟨rfl, lw_at 104 rfl rfl⟩, lw_at 67 (by decide +kernel) rfl, fun _ => rfl, by decide⟩
def m_Arrays_fill : MI := (⟨"java/util/Arrays", "fill", "([JJ)V"⟩, prog_27_method_101_code, 5, (Option.none : Option Jvm.ClassFile.FieldType), 4, false, [])
set_option maxRecDepth 20000 in
theorem ok_Arrays_fill : okMI m_Arrays_fill := ⟨rfl, by decide +kernel, Or.inl ⟨rfl, lw_at 108 rfl rfl⟩, lw_at 68 (by decide +kernel) rfl, (fun h => by cases h), by decide⟩
def m_Task_init : MI := (⟨"PlanJudge$Task", "<init>", "()V"⟩, prog_8_method_1_code, 1, (Option.none : Option Jvm.ClassFile.FieldType), 5, true, [])
set_option maxRecDepth 20000 in
theorem ok_Task_init : okMI m_Task_init := ⟨rfl, by decide +kernel, Or.inl ⟨rfl, lw_at 127 rfl rfl⟩, lw_at 69 (by decide +kernel) rfl, fun _ => rfl, by decide⟩
def m_ArrayList_init : MI := (⟨"java/util/ArrayList", "<init>", "()V"⟩, prog_26_method_2_code, 1, (Option.none : Option Jvm.ClassFile.FieldType), 6, true, [])
set_option maxRecDepth 20000 in
theorem ok_ArrayList_init : okMI m_ArrayList_init := ⟨rfl, by decide +kernel, Or.inl ⟨rfl, lw_at 133 rfl rfl⟩, lw_at 72 (by decide +kernel) rfl, fun _ => rfl, by decide⟩
def m_AbstractList_init : MI := (⟨"java/util/AbstractList", "<init>", "()V"⟩, prog_25_method_1_code, 1, (Option.none : Option Jvm.ClassFile.FieldType), 7, true, [])
set_option maxRecDepth 20000 in
theorem ok_AbstractList_init : okMI m_AbstractList_init := ⟨rfl, by decide +kernel, Or.inl ⟨rfl, lw_at 136 rfl rfl⟩, lw_at 71 (by decide +kernel) rfl, fun _ => rfl, by decide⟩
def m_AbstractCollection_init : MI := (⟨"java/util/AbstractCollection", "<init>", "()V"⟩, prog_24_method_1_code, 1, (Option.none : Option Jvm.ClassFile.FieldType), 8, true, [])
set_option maxRecDepth 20000 in
theorem ok_AbstractCollection_init : okMI m_AbstractCollection_init := ⟨rfl, by decide +kernel, Or.inl ⟨rfl, lw_at 139 rfl rfl⟩, lw_at 70 (by decide +kernel) rfl, fun _ => rfl, by decide⟩
def m_State_init : MI := (⟨"PlanJudge$State", "<init>", "()V"⟩, prog_7_method_1_code, 1, (Option.none : Option Jvm.ClassFile.FieldType), 9, true, [])
set_option maxRecDepth 20000 in
theorem ok_State_init : okMI m_State_init := ⟨rfl, by decide +kernel, Or.inl ⟨rfl, lw_at 159 rfl rfl⟩, lw_at 73 (by decide +kernel) rfl, fun _ => rfl, by decide⟩
def m_Fractions_put : MI := (⟨"PlanJudge$Fractions", "put", "(IJJ)V"⟩, prog_4_method_2_code, 13, (Option.none : Option Jvm.ClassFile.FieldType), 3, false, [])
set_option maxRecDepth 20000 in
theorem ok_Fractions_put : okMI m_Fractions_put := ⟨rfl, by decide +kernel, Or.inl ⟨rfl, lw_at 181 rfl rfl⟩, lw_at 67 (by decide +kernel) rfl, (fun h => by cases h), by decide⟩
def m_Arrays_fill2 : MI := (⟨"java/util/Arrays", "fill", "([II)V"⟩, prog_27_method_103_code, 4, (Option.none : Option Jvm.ClassFile.FieldType), 4, false, [])
set_option maxRecDepth 20000 in
theorem ok_Arrays_fill2 : okMI m_Arrays_fill2 := ⟨rfl, by decide +kernel, Or.inl ⟨rfl, lw_at 184 rfl rfl⟩, lw_at 68 (by decide +kernel) rfl, (fun h => by cases h), by decide⟩
def m_Plan_init : MI := (⟨"PlanJudge$Plan", "<init>", "()V"⟩, prog_6_method_1_code, 1, (Option.none : Option Jvm.ClassFile.FieldType), 10, true, [])
set_option maxRecDepth 20000 in
theorem ok_Plan_init : okMI m_Plan_init := ⟨rfl, by decide +kernel, Or.inl ⟨rfl, lw_at 223 rfl rfl⟩, lw_at 74 (by decide +kernel) rfl, fun _ => rfl, by decide⟩
def m_Verdict_init : MI := (⟨"PlanJudge$Verdict", "<init>", "()V"⟩, prog_10_method_1_code, 1, (Option.none : Option Jvm.ClassFile.FieldType), 11, true, [])
set_option maxRecDepth 20000 in
theorem ok_Verdict_init : okMI m_Verdict_init := ⟨rfl, by decide +kernel, Or.inl ⟨rfl, lw_at 268 rfl rfl⟩, lw_at 75 (by decide +kernel) rfl, fun _ => rfl, by decide⟩
def m_Judge_init : MI := (⟨"PlanJudge$Judge", "<init>", "()V"⟩, prog_5_method_1_code, 1, (Option.none : Option Jvm.ClassFile.FieldType), 12, true, [])
set_option maxRecDepth 20000 in
theorem ok_Judge_init : okMI m_Judge_init := ⟨rfl, by decide +kernel, Or.inl ⟨rfl, lw_at 293 rfl rfl⟩, lw_at 76 (by decide +kernel) rfl, fun _ => rfl, by decide⟩
def m_Arranger_init : MI := (⟨"PlanJudge$Arranger", "<init>", "()V"⟩, prog_3_method_1_code, 2, (Option.none : Option Jvm.ClassFile.FieldType), 13, true, [])
set_option maxRecDepth 20000 in
theorem ok_Arranger_init : okMI m_Arranger_init := ⟨rfl, by decide +kernel, Or.inl ⟨rfl, lw_at 327 rfl rfl⟩, lw_at 77 (by decide +kernel) rfl, fun _ => rfl, by decide⟩
def m_PJ_clear : MI := (⟨"PlanJudge", "clear", "()V"⟩, prog_1_method_16_code, 1, (Option.none : Option Jvm.ClassFile.FieldType), 1, false, [])
set_option maxRecDepth 20000 in
theorem ok_PJ_clear : okMI m_PJ_clear := ⟨rfl, by decide +kernel, Or.inl ⟨rfl, lw_at 412 rfl rfl⟩, lw_at 66 (by decide +kernel) rfl, (fun h => by cases h), by decide⟩
def m_Plan_empty : MI := (⟨"PlanJudge$Plan", "empty", "()V"⟩, prog_6_method_2_code, 1, (Option.none : Option Jvm.ClassFile.FieldType), 10, false, [])
set_option maxRecDepth 20000 in
theorem ok_Plan_empty : okMI m_Plan_empty := ⟨rfl, by decide +kernel, Or.inl ⟨rfl, lw_at 416 rfl rfl⟩, lw_at 74 (by decide +kernel) rfl, (fun h => by cases h), by decide⟩
def m_PJ_judge : MI := (⟨"PlanJudge", "judge", "()I"⟩, prog_1_method_17_code, 2, (Option.some Jvm.ClassFile.FieldType.int), 1, false, [])
set_option maxRecDepth 20000 in
theorem ok_PJ_judge : okMI m_PJ_judge := ⟨rfl, by decide +kernel, Or.inl ⟨rfl, lw_at 420 rfl rfl⟩, lw_at 66 (by decide +kernel) rfl, (fun h => by cases h), by decide⟩
def m_Judge_findFault : MI := (⟨"PlanJudge$Judge", "findFault", "(LPlanJudge$Task;LPlanJudge$Plan;)I"⟩, prog_5_method_2_code, 7, (Option.some Jvm.ClassFile.FieldType.int), 12, false, [])
set_option maxRecDepth 20000 in
theorem ok_Judge_findFault : okMI m_Judge_findFault := ⟨rfl, by decide +kernel, Or.inl ⟨rfl, lw_at 424 rfl rfl⟩, lw_at 76 (by decide +kernel) rfl, (fun h => by cases h), by decide⟩
def m_Judge_sortPoints : MI := (⟨"PlanJudge$Judge", "sortPoints", "(LPlanJudge$Plan;)V"⟩, prog_5_method_3_code, 4, (Option.none : Option Jvm.ClassFile.FieldType), 12, false, [])
set_option maxRecDepth 20000 in
theorem ok_Judge_sortPoints : okMI m_Judge_sortPoints := ⟨rfl, by decide +kernel, Or.inl ⟨rfl, lw_at 428 rfl rfl⟩, lw_at 76 (by decide +kernel) rfl, (fun h => by cases h), by decide⟩
def m_Fractions_copy : MI := (⟨"PlanJudge$Fractions", "copy", "(ILPlanJudge$Fractions;I)V"⟩, prog_4_method_3_code, 4, (Option.none : Option Jvm.ClassFile.FieldType), 3, false, [])
set_option maxRecDepth 20000 in
theorem ok_Fractions_copy : okMI m_Fractions_copy := ⟨rfl, by decide +kernel, Or.inl ⟨rfl, lw_at 432 rfl rfl⟩, lw_at 67 (by decide +kernel) rfl, (fun h => by cases h), by decide⟩
def m_PJ_isEnd : MI := (⟨"PlanJudge", "isEnd", "(I)Z"⟩, prog_1_method_37_code, 1, (Option.some Jvm.ClassFile.FieldType.boolean), 1, false, [])
set_option maxRecDepth 20000 in
theorem ok_PJ_isEnd : okMI m_PJ_isEnd := ⟨rfl, by decide +kernel, Or.inl ⟨rfl, lw_at 435 rfl rfl⟩, lw_at 66 (by decide +kernel) rfl, (fun h => by cases h), by decide⟩
def m_Fractions_alter : MI := (⟨"PlanJudge$Fractions", "alter", "(IILPlanJudge$Fractions;I)V"⟩, prog_4_method_5_code, 5, (Option.none : Option Jvm.ClassFile.FieldType), 3, false, [])
set_option maxRecDepth 20000 in
theorem ok_Fractions_alter : okMI m_Fractions_alter := ⟨rfl, by decide +kernel, Or.inl ⟨rfl, lw_at 439 rfl rfl⟩, lw_at 67 (by decide +kernel) rfl, (fun h => by cases h), by decide⟩
def m_Fractions_orderTo : MI := (⟨"PlanJudge$Fractions", "orderTo", "(ILPlanJudge$Fractions;I)I"⟩, prog_4_method_9_code, 22, (Option.some Jvm.ClassFile.FieldType.int), 3, false, [])
set_option maxRecDepth 20000 in
theorem ok_Fractions_orderTo : okMI m_Fractions_orderTo := ⟨rfl, by decide +kernel, Or.inl ⟨rfl, lw_at 445 rfl rfl⟩, lw_at 67 (by decide +kernel) rfl, (fun h => by cases h), by decide⟩
def m_Math_floorDiv : MI := (⟨"java/lang/Math", "floorDiv", "(JJ)J"⟩, prog_20_method_49_code, 6, (Option.some Jvm.ClassFile.FieldType.long), 14, false, [])
set_option maxRecDepth 20000 in
theorem ok_Math_floorDiv : okMI m_Math_floorDiv := ⟨rfl, by decide +kernel, Or.inl ⟨rfl, lw_at 448 rfl rfl⟩, lw_at 88 (by decide +kernel) rfl, (fun h => by cases h), by decide⟩
def m_State_copyFrom : MI := (⟨"PlanJudge$State", "copyFrom", "(LPlanJudge$State;)V"⟩, prog_7_method_2_code, 2, (Option.none : Option Jvm.ClassFile.FieldType), 9, false, [])
set_option maxRecDepth 20000 in
theorem ok_State_copyFrom : okMI m_State_copyFrom := ⟨rfl, by decide +kernel, Or.inl ⟨rfl, lw_at 452 rfl rfl⟩, lw_at 73 (by decide +kernel) rfl, (fun h => by cases h), by decide⟩
def m_Fractions_copyAll : MI := (⟨"PlanJudge$Fractions", "copyAll", "(LPlanJudge$Fractions;)V"⟩, prog_4_method_4_code, 2, (Option.none : Option Jvm.ClassFile.FieldType), 3, false, [])
set_option maxRecDepth 20000 in
theorem ok_Fractions_copyAll : okMI m_Fractions_copyAll := ⟨rfl, by decide +kernel, Or.inl ⟨rfl, lw_at 456 rfl rfl⟩, lw_at 67 (by decide +kernel) rfl, (fun h => by cases h), by decide⟩
def m_Judge_faultAmong : MI := (⟨"PlanJudge$Judge", "faultAmong", "(LPlanJudge$Task;LPlanJudge$Plan;II)I"⟩, prog_5_method_4_code, 5, (Option.some Jvm.ClassFile.FieldType.int), 12, false, [])
set_option maxRecDepth 20000 in
theorem ok_Judge_faultAmong : okMI m_Judge_faultAmong := ⟨rfl, by decide +kernel, Or.inl ⟨rfl, lw_at 463 rfl rfl⟩, lw_at 76 (by decide +kernel) rfl, (fun h => by cases h), by decide⟩
def m_Judge_findInterference : MI := (⟨"PlanJudge$Judge", "findInterference", "(LPlanJudge$Task;LPlanJudge$Plan;II)I"⟩, prog_5_method_5_code, 7, (Option.some Jvm.ClassFile.FieldType.int), 12, false, [])
set_option maxRecDepth 20000 in
theorem ok_Judge_findInterference : okMI m_Judge_findInterference := ⟨rfl, by decide +kernel, Or.inl ⟨rfl, lw_at 467 rfl rfl⟩, lw_at 76 (by decide +kernel) rfl, (fun h => by cases h), by decide⟩
def m_Judge_areTooNear : MI := (⟨"PlanJudge$Judge", "areTooNear", "(LPlanJudge$Task;LPlanJudge$Plan;II)Z"⟩, prog_5_method_6_code, 7, (Option.some Jvm.ClassFile.FieldType.boolean), 12, false, [])
set_option maxRecDepth 20000 in
theorem ok_Judge_areTooNear : okMI m_Judge_areTooNear := ⟨rfl, by decide +kernel, Or.inl ⟨rfl, lw_at 471 rfl rfl⟩, lw_at 76 (by decide +kernel) rfl, (fun h => by cases h), by decide⟩
def m_Judge_actionAt : MI := (⟨"PlanJudge$Judge", "actionAt", "(LPlanJudge$Task;LPlanJudge$Plan;I)LPlanJudge$Action;"⟩, prog_5_method_12_code, 3, (Option.some (Jvm.ClassFile.FieldType.object "PlanJudge$Action")), 12, false, [])
set_option maxRecDepth 20000 in
theorem ok_Judge_actionAt : okMI m_Judge_actionAt := ⟨rfl, by decide +kernel, Or.inl ⟨rfl, lw_at 474 rfl rfl⟩, lw_at 76 (by decide +kernel) rfl, (fun h => by cases h), by decide⟩
def m_ArrayList_get : MI := (⟨"java/util/ArrayList", "get", "(I)Ljava/lang/Object;"⟩, prog_26_method_20_code, 2, (Option.some (Jvm.ClassFile.FieldType.object "java/lang/Object")), 6, false, [])
set_option maxRecDepth 20000 in
theorem ok_ArrayList_get : okMI m_ArrayList_get := ⟨rfl, by decide +kernel, Or.inl ⟨rfl, lw_at 478 rfl rfl⟩, lw_at 72 (by decide +kernel) rfl, (fun h => by cases h), by decide⟩
def m_Objects_checkIndex : MI := (⟨"java/util/Objects", "checkIndex", "(II)I"⟩, prog_30_method_17_code, 2, (Option.some Jvm.ClassFile.FieldType.int), 15, false, [])
set_option maxRecDepth 20000 in
theorem ok_Objects_checkIndex : okMI m_Objects_checkIndex := ⟨rfl, by decide +kernel, Or.inl ⟨rfl, lw_at 481 rfl rfl⟩, lw_at 90 (by decide +kernel) rfl, (fun h => by cases h), by decide⟩
def m_Preconditions_checkIndex : MI := (⟨"jdk/internal/util/Preconditions", "checkIndex", "(IILjava/util/function/BiFunction;)I"⟩, prog_34_method_11_code, 3, (Option.some Jvm.ClassFile.FieldType.int), 16, false, [])
set_option maxRecDepth 20000 in
theorem ok_Preconditions_checkIndex : okMI m_Preconditions_checkIndex := ⟨rfl, by decide +kernel, Or.inl ⟨rfl, lw_at 484 rfl rfl⟩, lw_at 91 (by decide +kernel) rfl, (fun h => by cases h), by decide⟩
def m_ArrayList_elementData : MI := (⟨"java/util/ArrayList", "elementData", "(I)Ljava/lang/Object;"⟩, prog_26_method_18_code, 2, (Option.some (Jvm.ClassFile.FieldType.object "java/lang/Object")), 6, false, [])
set_option maxRecDepth 20000 in
theorem ok_ArrayList_elementData : okMI m_ArrayList_elementData := ⟨rfl, by decide +kernel, Or.inl ⟨rfl, lw_at 488 rfl rfl⟩, lw_at 72 (by decide +kernel) rfl, (fun h => by cases h), by decide⟩
def m_PJ_timeOf : MI := (⟨"PlanJudge", "timeOf", "(I)I"⟩, prog_1_method_38_code, 1, (Option.some Jvm.ClassFile.FieldType.int), 1, false, [])
set_option maxRecDepth 20000 in
theorem ok_PJ_timeOf : okMI m_PJ_timeOf := ⟨rfl, by decide +kernel, Or.inl ⟨rfl, lw_at 492 rfl rfl⟩, lw_at 66 (by decide +kernel) rfl, (fun h => by cases h), by decide⟩
def m_Action_interferes : MI := (⟨"PlanJudge$Action", "interferes", "(ILPlanJudge$Action;I)Z"⟩, prog_2_method_10_code, 6, (Option.some Jvm.ClassFile.FieldType.boolean), 17, false, [])
set_option maxRecDepth 20000 in
theorem ok_Action_interferes : okMI m_Action_interferes := ⟨rfl, by decide +kernel, Or.inl ⟨rfl, lw_at 497 rfl rfl⟩, lw_at 85 (by decide +kernel) rfl, (fun h => by cases h), by decide⟩
def m_Judge_findUnmetNeed : MI := (⟨"PlanJudge$Judge", "findUnmetNeed", "(LPlanJudge$Task;LPlanJudge$Plan;II)I"⟩, prog_5_method_7_code, 6, (Option.some Jvm.ClassFile.FieldType.int), 12, false, [])
set_option maxRecDepth 20000 in
theorem ok_Judge_findUnmetNeed : okMI m_Judge_findUnmetNeed := ⟨rfl, by decide +kernel, Or.inl ⟨rfl, lw_at 501 rfl rfl⟩, lw_at 76 (by decide +kernel) rfl, (fun h => by cases h), by decide⟩
def m_Action_isMet : MI := (⟨"PlanJudge$Action", "isMet", "(LPlanJudge$State;I)Z"⟩, prog_2_method_7_code, 4, (Option.some Jvm.ClassFile.FieldType.boolean), 17, false, [])
set_option maxRecDepth 20000 in
theorem ok_Action_isMet : okMI m_Action_isMet := ⟨rfl, by decide +kernel, Or.inl ⟨rfl, lw_at 505 rfl rfl⟩, lw_at 85 (by decide +kernel) rfl, (fun h => by cases h), by decide⟩
def m_State_hasFacts : MI := (⟨"PlanJudge$State", "hasFacts", "(II)Z"⟩, prog_7_method_3_code, 3, (Option.some Jvm.ClassFile.FieldType.boolean), 9, false, [])
set_option maxRecDepth 20000 in
theorem ok_State_hasFacts : okMI m_State_hasFacts := ⟨rfl, by decide +kernel, Or.inl ⟨rfl, lw_at 509 rfl rfl⟩, lw_at 73 (by decide +kernel) rfl, (fun h => by cases h), by decide⟩
def m_Fractions_isSo : MI := (⟨"PlanJudge$Fractions", "isSo", "(IILPlanJudge$Fractions;I)Z"⟩, prog_4_method_8_code, 6, (Option.some Jvm.ClassFile.FieldType.boolean), 3, false, [])
set_option maxRecDepth 20000 in
theorem ok_Fractions_isSo : okMI m_Fractions_isSo := ⟨rfl, by decide +kernel, Or.inl ⟨rfl, lw_at 513 rfl rfl⟩, lw_at 67 (by decide +kernel) rfl, (fun h => by cases h), by decide⟩
def m_Judge_findWrongDuration : MI := (⟨"PlanJudge$Judge", "findWrongDuration", "(LPlanJudge$Task;LPlanJudge$Plan;II)I"⟩, prog_5_method_8_code, 6, (Option.some Jvm.ClassFile.FieldType.int), 12, false, [])
set_option maxRecDepth 20000 in
theorem ok_Judge_findWrongDuration : okMI m_Judge_findWrongDuration := ⟨rfl, by decide +kernel, Or.inl ⟨rfl, lw_at 518 rfl rfl⟩, lw_at 76 (by decide +kernel) rfl, (fun h => by cases h), by decide⟩
def m_Judge_isDurationRight : MI := (⟨"PlanJudge$Judge", "isDurationRight", "(LPlanJudge$Task;LPlanJudge$Plan;I)Z"⟩, prog_5_method_9_code, 5, (Option.some Jvm.ClassFile.FieldType.boolean), 12, false, [])
set_option maxRecDepth 20000 in
theorem ok_Judge_isDurationRight : okMI m_Judge_isDurationRight := ⟨rfl, by decide +kernel, Or.inl ⟨rfl, lw_at 522 rfl rfl⟩, lw_at 76 (by decide +kernel) rfl, (fun h => by cases h), by decide⟩
def m_Action_writeBound : MI := (⟨"PlanJudge$Action", "writeBound", "(ILPlanJudge$State;LPlanJudge$Fractions;I)Z"⟩, prog_2_method_9_code, 6, (Option.some Jvm.ClassFile.FieldType.boolean), 17, false, [])
set_option maxRecDepth 20000 in
theorem ok_Action_writeBound : okMI m_Action_writeBound := ⟨rfl, by decide +kernel, Or.inl ⟨rfl, lw_at 526 rfl rfl⟩, lw_at 85 (by decide +kernel) rfl, (fun h => by cases h), by decide⟩
def m_Judge_doChanges : MI := (⟨"PlanJudge$Judge", "doChanges", "(LPlanJudge$Task;LPlanJudge$Plan;II)I"⟩, prog_5_method_10_code, 6, (Option.some Jvm.ClassFile.FieldType.int), 12, false, [])
set_option maxRecDepth 20000 in
theorem ok_Judge_doChanges : okMI m_Judge_doChanges := ⟨rfl, by decide +kernel, Or.inl ⟨rfl, lw_at 532 rfl rfl⟩, lw_at 76 (by decide +kernel) rfl, (fun h => by cases h), by decide⟩
def m_Action_changeState : MI := (⟨"PlanJudge$Action", "changeState", "(LPlanJudge$State;I)Z"⟩, prog_2_method_8_code, 5, (Option.some Jvm.ClassFile.FieldType.boolean), 17, false, [])
set_option maxRecDepth 20000 in
theorem ok_Action_changeState : okMI m_Action_changeState := ⟨rfl, by decide +kernel, Or.inl ⟨rfl, lw_at 536 rfl rfl⟩, lw_at 85 (by decide +kernel) rfl, (fun h => by cases h), by decide⟩
def m_Fractions_isTooLong : MI := (⟨"PlanJudge$Fractions", "isTooLong", "(I)Z"⟩, prog_4_method_6_code, 2, (Option.some Jvm.ClassFile.FieldType.boolean), 3, false, [])
set_option maxRecDepth 20000 in
theorem ok_Fractions_isTooLong : okMI m_Fractions_isTooLong := ⟨rfl, by decide +kernel, Or.inl ⟨rfl, lw_at 541 rfl rfl⟩, lw_at 67 (by decide +kernel) rfl, (fun h => by cases h), by decide⟩
def m_Judge_findUnmetAllOver : MI := (⟨"PlanJudge$Judge", "findUnmetAllOver", "(LPlanJudge$Task;LPlanJudge$Plan;)I"⟩, prog_5_method_11_code, 4, (Option.some Jvm.ClassFile.FieldType.int), 12, false, [])
set_option maxRecDepth 20000 in
theorem ok_Judge_findUnmetAllOver : okMI m_Judge_findUnmetAllOver := ⟨rfl, by decide +kernel, Or.inl ⟨rfl, lw_at 547 rfl rfl⟩, lw_at 76 (by decide +kernel) rfl, (fun h => by cases h), by decide⟩
def m_Task_isGoalMet : MI := (⟨"PlanJudge$Task", "isGoalMet", "(LPlanJudge$State;)Z"⟩, prog_8_method_3_code, 3, (Option.some Jvm.ClassFile.FieldType.boolean), 5, false, [])
set_option maxRecDepth 20000 in
theorem ok_Task_isGoalMet : okMI m_Task_isGoalMet := ⟨rfl, by decide +kernel, Or.inl ⟨rfl, lw_at 551 rfl rfl⟩, lw_at 69 (by decide +kernel) rfl, (fun h => by cases h), by decide⟩
def m_Verdict_write : MI := (⟨"PlanJudge$Verdict", "write", "(IILPlanJudge$State;)V"⟩, prog_10_method_2_code, 4, (Option.none : Option Jvm.ClassFile.FieldType), 11, false, [])
set_option maxRecDepth 20000 in
theorem ok_Verdict_write : okMI m_Verdict_write := ⟨rfl, by decide +kernel, Or.inl ⟨rfl, lw_at 557 rfl rfl⟩, lw_at 75 (by decide +kernel) rfl, (fun h => by cases h), by decide⟩
def m_PJ_pop : MI := (⟨"PlanJudge", "pop", "()I"⟩, prog_1_method_19_code, 1, (Option.some Jvm.ClassFile.FieldType.int), 1, false, [])
set_option maxRecDepth 20000 in
theorem ok_PJ_pop : okMI m_PJ_pop := ⟨rfl, by decide +kernel, Or.inl ⟨rfl, lw_at 562 rfl rfl⟩, lw_at 66 (by decide +kernel) rfl, (fun h => by cases h), by decide⟩
def m_Plan_dropLastPoint : MI := (⟨"PlanJudge$Plan", "dropLastPoint", "()I"⟩, prog_6_method_6_code, 1, (Option.some Jvm.ClassFile.FieldType.int), 10, false, [])
set_option maxRecDepth 20000 in
theorem ok_Plan_dropLastPoint : okMI m_Plan_dropLastPoint := ⟨rfl, by decide +kernel, Or.inl ⟨rfl, lw_at 566 rfl rfl⟩, lw_at 74 (by decide +kernel) rfl, (fun h => by cases h), by decide⟩
def m_PJ_at : MI := (⟨"PlanJudge", "at", "(I)I"⟩, prog_1_method_24_code, 2, (Option.some Jvm.ClassFile.FieldType.int), 1, false, [])
set_option maxRecDepth 20000 in
theorem ok_PJ_at : okMI m_PJ_at := ⟨rfl, by decide +kernel, Or.inl ⟨rfl, lw_at 570 rfl rfl⟩, lw_at 66 (by decide +kernel) rfl, (fun h => by cases h), by decide⟩
def m_PJ_amount : MI := (⟨"PlanJudge", "amount", "(II)V"⟩, prog_1_method_2_code, 3, (Option.none : Option Jvm.ClassFile.FieldType), 1, false, [])
set_option maxRecDepth 20000 in
theorem ok_PJ_amount : okMI m_PJ_amount := ⟨rfl, by decide +kernel, Or.inl ⟨rfl, lw_at 578 rfl rfl⟩, lw_at 66 (by decide +kernel) rfl, (fun h => by cases h), by decide⟩
def m_PJ_takeInHand : MI := (⟨"PlanJudge", "takeInHand", "(III)V"⟩, prog_1_method_28_code, 4, (Option.none : Option Jvm.ClassFile.FieldType), 1, false, [])
set_option maxRecDepth 20000 in
theorem ok_PJ_takeInHand : okMI m_PJ_takeInHand := ⟨rfl, by decide +kernel, Or.inl ⟨rfl, lw_at 582 rfl rfl⟩, lw_at 66 (by decide +kernel) rfl, (fun h => by cases h), by decide⟩
def m_PJ_checkChoice : MI := (⟨"PlanJudge", "checkChoice", "(III)V"⟩, prog_1_method_33_code, 3, (Option.none : Option Jvm.ClassFile.FieldType), 1, false, [])
set_option maxRecDepth 20000 in
theorem ok_PJ_checkChoice : okMI m_PJ_checkChoice := ⟨rfl, by decide +kernel, Or.inl ⟨rfl, lw_at 587 rfl rfl⟩, lw_at 66 (by decide +kernel) rfl, (fun h => by cases h), by decide⟩
def m_PJ_moment : MI := (⟨"PlanJudge", "moment", "(II)V"⟩, prog_1_method_3_code, 3, (Option.none : Option Jvm.ClassFile.FieldType), 1, false, [])
set_option maxRecDepth 20000 in
theorem ok_PJ_moment : okMI m_PJ_moment := ⟨rfl, by decide +kernel, Or.inl ⟨rfl, lw_at 658 rfl rfl⟩, lw_at 66 (by decide +kernel) rfl, (fun h => by cases h), by decide⟩
def m_PJ_epsilon : MI := (⟨"PlanJudge", "epsilon", "()V"⟩, prog_1_method_4_code, 1, (Option.none : Option Jvm.ClassFile.FieldType), 1, false, [])
set_option maxRecDepth 20000 in
theorem ok_PJ_epsilon : okMI m_PJ_epsilon := ⟨rfl, by decide +kernel, Or.inl ⟨rfl, lw_at 665 rfl rfl⟩, lw_at 66 (by decide +kernel) rfl, (fun h => by cases h), by decide⟩
def m_PJ_fact : MI := (⟨"PlanJudge", "fact", "(IZ)V"⟩, prog_1_method_5_code, 4, (Option.none : Option Jvm.ClassFile.FieldType), 1, false, [])
set_option maxRecDepth 20000 in
theorem ok_PJ_fact : okMI m_PJ_fact := ⟨rfl, by decide +kernel, Or.inl ⟨rfl, lw_at 674 rfl rfl⟩, lw_at 66 (by decide +kernel) rfl, (fun h => by cases h), by decide⟩
def m_PJ_checkIndex : MI := (⟨"PlanJudge", "checkIndex", "(II)V"⟩, prog_1_method_32_code, 2, (Option.none : Option Jvm.ClassFile.FieldType), 1, false, [])
set_option maxRecDepth 20000 in
theorem ok_PJ_checkIndex : okMI m_PJ_checkIndex := ⟨rfl, by decide +kernel, Or.inl ⟨rfl, lw_at 677 rfl rfl⟩, lw_at 66 (by decide +kernel) rfl, (fun h => by cases h), by decide⟩
def m_PJ_factBit : MI := (⟨"PlanJudge", "factBit", "(I)I"⟩, prog_1_method_39_code, 1, (Option.some Jvm.ClassFile.FieldType.int), 1, false, [])
set_option maxRecDepth 20000 in
theorem ok_PJ_factBit : okMI m_PJ_factBit := ⟨rfl, by decide +kernel, Or.inl ⟨rfl, lw_at 695 rfl rfl⟩, lw_at 66 (by decide +kernel) rfl, (fun h => by cases h), by decide⟩
def m_PJ_number : MI := (⟨"PlanJudge", "number", "(I)V"⟩, prog_1_method_6_code, 2, (Option.none : Option Jvm.ClassFile.FieldType), 1, false, [])
set_option maxRecDepth 20000 in
theorem ok_PJ_number : okMI m_PJ_number := ⟨rfl, by decide +kernel, Or.inl ⟨rfl, lw_at 702 rfl rfl⟩, lw_at 66 (by decide +kernel) rfl, (fun h => by cases h), by decide⟩
def m_PJ_wish : MI := (⟨"PlanJudge", "wish", "(II)V"⟩, prog_1_method_7_code, 3, (Option.none : Option Jvm.ClassFile.FieldType), 1, false, [])
set_option maxRecDepth 20000 in
theorem ok_PJ_wish : okMI m_PJ_wish := ⟨rfl, by decide +kernel, Or.inl ⟨rfl, lw_at 709 rfl rfl⟩, lw_at 66 (by decide +kernel) rfl, (fun h => by cases h), by decide⟩
def m_Task_wishFact : MI := (⟨"PlanJudge$Task", "wishFact", "(II)V"⟩, prog_8_method_2_code, 3, (Option.none : Option Jvm.ClassFile.FieldType), 5, false, [])
set_option maxRecDepth 20000 in
theorem ok_Task_wishFact : okMI m_Task_wishFact := ⟨rfl, by decide +kernel, Or.inl ⟨rfl, lw_at 713 rfl rfl⟩, lw_at 69 (by decide +kernel) rfl, (fun h => by cases h), by decide⟩
def m_PJ_want : MI := (⟨"PlanJudge", "want", "(II)V"⟩, prog_1_method_8_code, 3, (Option.none : Option Jvm.ClassFile.FieldType), 1, false, [])
set_option maxRecDepth 20000 in
theorem ok_PJ_want : okMI m_PJ_want := ⟨rfl, by decide +kernel, Or.inl ⟨rfl, lw_at 721 rfl rfl⟩, lw_at 66 (by decide +kernel) rfl, (fun h => by cases h), by decide⟩
def m_PJ_action : MI := (⟨"PlanJudge", "action", "()I"⟩, prog_1_method_9_code, 1, (Option.some Jvm.ClassFile.FieldType.int), 1, false, [])
set_option maxRecDepth 20000 in
theorem ok_PJ_action : okMI m_PJ_action := ⟨rfl, by decide +kernel, Or.inl ⟨rfl, lw_at 729 rfl rfl⟩, lw_at 66 (by decide +kernel) rfl, (fun h => by cases h), by decide⟩
def m_ArrayList_size : MI := (⟨"java/util/ArrayList", "size", "()I"⟩, prog_26_method_8_code, 1, (Option.some Jvm.ClassFile.FieldType.int), 6, false, [])
set_option maxRecDepth 20000 in
theorem ok_ArrayList_size : okMI m_ArrayList_size := ⟨rfl, by decide +kernel, Or.inl ⟨rfl, lw_at 733 rfl rfl⟩, lw_at 72 (by decide +kernel) rfl, (fun h => by cases h), by decide⟩
def m_PJ_checkRoom : MI := (⟨"PlanJudge", "checkRoom", "(II)V"⟩, prog_1_method_35_code, 2, (Option.none : Option Jvm.ClassFile.FieldType), 1, false, [])
set_option maxRecDepth 20000 in
theorem ok_PJ_checkRoom : okMI m_PJ_checkRoom := ⟨rfl, by decide +kernel, Or.inl ⟨rfl, lw_at 736 rfl rfl⟩, lw_at 66 (by decide +kernel) rfl, (fun h => by cases h), by decide⟩
def m_Action_init : MI := (⟨"PlanJudge$Action", "<init>", "()V"⟩, prog_2_method_1_code, 1, (Option.none : Option Jvm.ClassFile.FieldType), 17, true, [])
set_option maxRecDepth 20000 in
theorem ok_Action_init : okMI m_Action_init := ⟨rfl, by decide +kernel, Or.inl ⟨rfl, lw_at 756 rfl rfl⟩, lw_at 85 (by decide +kernel) rfl, fun _ => rfl, by decide⟩
def m_Terms_init : MI := (⟨"PlanJudge$Terms", "<init>", "(I)V"⟩, prog_9_method_1_code, 2, (Option.none : Option Jvm.ClassFile.FieldType), 24, true, [])
set_option maxRecDepth 20000 in
theorem ok_Terms_init : okMI m_Terms_init := ⟨rfl, by decide +kernel, Or.inl ⟨rfl, lw_at 762 rfl rfl⟩, lw_at 86 (by decide +kernel) rfl, fun _ => rfl, by decide⟩
def m_ArrayList_add : MI := (⟨"java/util/ArrayList", "add", "(Ljava/lang/Object;)Z"⟩, prog_26_method_25_code, 2, (Option.some Jvm.ClassFile.FieldType.boolean), 6, false, [])
set_option maxRecDepth 20000 in
theorem ok_ArrayList_add : okMI m_ArrayList_add := ⟨rfl, by decide +kernel, Or.inl ⟨rfl, lw_at 836 rfl rfl⟩, lw_at 72 (by decide +kernel) rfl, (fun h => by cases h), by decide⟩
def m_ArrayList_add2 : MI := (⟨"java/util/ArrayList", "add", "(Ljava/lang/Object;[Ljava/lang/Object;I)V"⟩, prog_26_method_24_code, 4, (Option.none : Option Jvm.ClassFile.FieldType), 6, false, [])
set_option maxRecDepth 20000 in
theorem ok_ArrayList_add2 : okMI m_ArrayList_add2 := ⟨rfl, by decide +kernel, Or.inl ⟨rfl, lw_at 840 rfl rfl⟩, lw_at 72 (by decide +kernel) rfl, (fun h => by cases h), by decide⟩
def m_ArrayList_grow : MI := (⟨"java/util/ArrayList", "grow", "()[Ljava/lang/Object;"⟩, prog_26_method_7_code, 1, (Option.some (Jvm.ClassFile.FieldType.array (Jvm.ClassFile.FieldType.object "java/lang/Object"))), 6, false, [])
set_option maxRecDepth 20000 in
theorem ok_ArrayList_grow : okMI m_ArrayList_grow := ⟨rfl, by decide +kernel, Or.inl ⟨rfl, lw_at 844 rfl rfl⟩, lw_at 72 (by decide +kernel) rfl, (fun h => by cases h), by decide⟩
def m_ArrayList_grow2 : MI := (⟨"java/util/ArrayList", "grow", "(I)[Ljava/lang/Object;"⟩, prog_26_method_6_code, 4, (Option.some (Jvm.ClassFile.FieldType.array (Jvm.ClassFile.FieldType.object "java/lang/Object"))), 6, false, [])
set_option maxRecDepth 20000 in
theorem ok_ArrayList_grow2 : okMI m_ArrayList_grow2 := ⟨rfl, by decide +kernel, Or.inl ⟨rfl, lw_at 848 rfl rfl⟩, lw_at 72 (by decide +kernel) rfl, (fun h => by cases h), by decide⟩
def m_ArraysSupport_newLength : MI := (⟨"jdk/internal/util/ArraysSupport", "newLength", "(III)I"⟩, prog_33_method_27_code, 4, (Option.some Jvm.ClassFile.FieldType.int), 25, false, [])
set_option maxRecDepth 20000 in
theorem ok_ArraysSupport_newLength : okMI m_ArraysSupport_newLength := ⟨rfl, by decide +kernel, Or.inl ⟨rfl, lw_at 851 rfl rfl⟩, lw_at 87 (by decide +kernel) rfl, (fun h => by cases h), by decide⟩
def m_Math_max : MI := (⟨"java/lang/Math", "max", "(II)I"⟩, prog_20_method_65_code, 2, (Option.some Jvm.ClassFile.FieldType.int), 14, false, [])
set_option maxRecDepth 20000 in
theorem ok_Math_max : okMI m_Math_max := ⟨rfl, by decide +kernel, Or.inl ⟨rfl, lw_at 854 rfl rfl⟩, lw_at 88 (by decide +kernel) rfl, (fun h => by cases h), by decide⟩
def m_ArraysSupport_hugeLength : MI := (⟨"jdk/internal/util/ArraysSupport", "hugeLength", "(II)I"⟩, prog_33_method_28_code, 3, (Option.some Jvm.ClassFile.FieldType.int), 25, false, [])
set_option maxRecDepth 20000 in
theorem ok_ArraysSupport_hugeLength : okMI m_ArraysSupport_hugeLength := ⟨rfl, by decide +kernel, Or.inl ⟨rfl, lw_at 858 rfl rfl⟩, lw_at 87 (by decide +kernel) rfl, (fun h => by cases h), by decide⟩
def m_Arrays_copyOf : MI := (⟨"java/util/Arrays", "copyOf", "([Ljava/lang/Object;I)[Ljava/lang/Object;"⟩, prog_27_method_119_code, 2, (Option.some (Jvm.ClassFile.FieldType.array (Jvm.ClassFile.FieldType.object "java/lang/Object"))), 4, false, [])
set_option maxRecDepth 20000 in
theorem ok_Arrays_copyOf : okMI m_Arrays_copyOf := ⟨rfl, by decide +kernel, Or.inl ⟨rfl, lw_at 861 rfl rfl⟩, lw_at 68 (by decide +kernel) rfl, (fun h => by cases h), by decide⟩
def m_Arrays_copyOf2 : MI := (⟨"java/util/Arrays", "copyOf", "([Ljava/lang/Object;ILjava/lang/Class;)[Ljava/lang/Object;"⟩, prog_27_method_120_code, 4, (Option.some (Jvm.ClassFile.FieldType.array (Jvm.ClassFile.FieldType.object "java/lang/Object"))), 4, false, [])
set_option maxRecDepth 20000 in
theorem ok_Arrays_copyOf2 : okMI m_Arrays_copyOf2 := ⟨rfl, by decide +kernel, Or.inl ⟨rfl, lw_at 883 rfl rfl⟩, lw_at 68 (by decide +kernel) rfl, (fun h => by cases h), by decide⟩
def m_Math_min : MI := (⟨"java/lang/Math", "min", "(II)I"⟩, prog_20_method_69_code, 2, (Option.some Jvm.ClassFile.FieldType.int), 14, false, [])
set_option maxRecDepth 20000 in
theorem ok_Math_min : okMI m_Math_min := ⟨rfl, by decide +kernel, Or.inl ⟨rfl, lw_at 889 rfl rfl⟩, lw_at 88 (by decide +kernel) rfl, (fun h => by cases h), by decide⟩
def m_PJ_need : MI := (⟨"PlanJudge", "need", "(IIIZ)V"⟩, prog_1_method_10_code, 6, (Option.none : Option Jvm.ClassFile.FieldType), 1, false, [])
set_option maxRecDepth 20000 in
theorem ok_PJ_need : okMI m_PJ_need := ⟨rfl, by decide +kernel, Or.inl ⟨rfl, lw_at 899 rfl rfl⟩, lw_at 66 (by decide +kernel) rfl, (fun h => by cases h), by decide⟩
def m_Action_needFact : MI := (⟨"PlanJudge$Action", "needFact", "(IIZ)V"⟩, prog_2_method_2_code, 5, (Option.none : Option Jvm.ClassFile.FieldType), 17, false, [])
set_option maxRecDepth 20000 in
theorem ok_Action_needFact : okMI m_Action_needFact := ⟨rfl, by decide +kernel, Or.inl ⟨rfl, lw_at 904 rfl rfl⟩, lw_at 85 (by decide +kernel) rfl, (fun h => by cases h), by decide⟩
def m_PJ_compare : MI := (⟨"PlanJudge", "compare", "(IIII)V"⟩, prog_1_method_11_code, 6, (Option.none : Option Jvm.ClassFile.FieldType), 1, false, [])
set_option maxRecDepth 20000 in
theorem ok_PJ_compare : okMI m_PJ_compare := ⟨rfl, by decide +kernel, Or.inl ⟨rfl, lw_at 912 rfl rfl⟩, lw_at 66 (by decide +kernel) rfl, (fun h => by cases h), by decide⟩
def m_Action_needNumber : MI := (⟨"PlanJudge$Action", "needNumber", "(IIILPlanJudge$Fractions;)V"⟩, prog_2_method_3_code, 5, (Option.none : Option Jvm.ClassFile.FieldType), 17, false, [])
set_option maxRecDepth 20000 in
theorem ok_Action_needNumber : okMI m_Action_needNumber := ⟨rfl, by decide +kernel, Or.inl ⟨rfl, lw_at 916 rfl rfl⟩, lw_at 85 (by decide +kernel) rfl, (fun h => by cases h), by decide⟩
def m_Terms_tell : MI := (⟨"PlanJudge$Terms", "tell", "(IIILPlanJudge$Fractions;)V"⟩, prog_9_method_2_code, 5, (Option.none : Option Jvm.ClassFile.FieldType), 24, false, [])
set_option maxRecDepth 20000 in
theorem ok_Terms_tell : okMI m_Terms_tell := ⟨rfl, by decide +kernel, Or.inl ⟨rfl, lw_at 920 rfl rfl⟩, lw_at 86 (by decide +kernel) rfl, (fun h => by cases h), by decide⟩
def m_PJ_numberBit : MI := (⟨"PlanJudge", "numberBit", "(I)I"⟩, prog_1_method_40_code, 1, (Option.some Jvm.ClassFile.FieldType.int), 1, false, [])
set_option maxRecDepth 20000 in
theorem ok_PJ_numberBit : okMI m_PJ_numberBit := ⟨rfl, by decide +kernel, Or.inl ⟨rfl, lw_at 924 rfl rfl⟩, lw_at 66 (by decide +kernel) rfl, (fun h => by cases h), by decide⟩
def m_PJ_make : MI := (⟨"PlanJudge", "make", "(IIIZ)V"⟩, prog_1_method_12_code, 6, (Option.none : Option Jvm.ClassFile.FieldType), 1, false, [])
set_option maxRecDepth 20000 in
theorem ok_PJ_make : okMI m_PJ_make := ⟨rfl, by decide +kernel, Or.inl ⟨rfl, lw_at 931 rfl rfl⟩, lw_at 66 (by decide +kernel) rfl, (fun h => by cases h), by decide⟩
def m_PJ_checkTimeOfChange : MI := (⟨"PlanJudge", "checkTimeOfChange", "(I)V"⟩, prog_1_method_34_code, 1, (Option.none : Option Jvm.ClassFile.FieldType), 1, false, [])
set_option maxRecDepth 20000 in
theorem ok_PJ_checkTimeOfChange : okMI m_PJ_checkTimeOfChange := ⟨rfl, by decide +kernel, Or.inl ⟨rfl, lw_at 934 rfl rfl⟩, lw_at 66 (by decide +kernel) rfl, (fun h => by cases h), by decide⟩
def m_PJ_checkNewChange : MI := (⟨"PlanJudge", "checkNewChange", "(LPlanJudge$Action;II)V"⟩, prog_1_method_36_code, 3, (Option.none : Option Jvm.ClassFile.FieldType), 1, false, [])
set_option maxRecDepth 20000 in
theorem ok_PJ_checkNewChange : okMI m_PJ_checkNewChange := ⟨rfl, by decide +kernel, Or.inl ⟨rfl, lw_at 937 rfl rfl⟩, lw_at 66 (by decide +kernel) rfl, (fun h => by cases h), by decide⟩
def m_Action_changeFact : MI := (⟨"PlanJudge$Action", "changeFact", "(IIZ)V"⟩, prog_2_method_4_code, 5, (Option.none : Option Jvm.ClassFile.FieldType), 17, false, [])
set_option maxRecDepth 20000 in
theorem ok_Action_changeFact : okMI m_Action_changeFact := ⟨rfl, by decide +kernel, Or.inl ⟨rfl, lw_at 941 rfl rfl⟩, lw_at 85 (by decide +kernel) rfl, (fun h => by cases h), by decide⟩
def m_PJ_change : MI := (⟨"PlanJudge", "change", "(IIII)V"⟩, prog_1_method_13_code, 6, (Option.none : Option Jvm.ClassFile.FieldType), 1, false, [])
set_option maxRecDepth 20000 in
theorem ok_PJ_change : okMI m_PJ_change := ⟨rfl, by decide +kernel, Or.inl ⟨rfl, lw_at 948 rfl rfl⟩, lw_at 66 (by decide +kernel) rfl, (fun h => by cases h), by decide⟩
def m_Action_changeNumber : MI := (⟨"PlanJudge$Action", "changeNumber", "(IIILPlanJudge$Fractions;)V"⟩, prog_2_method_5_code, 5, (Option.none : Option Jvm.ClassFile.FieldType), 17, false, [])
set_option maxRecDepth 20000 in
theorem ok_Action_changeNumber : okMI m_Action_changeNumber := ⟨rfl, by decide +kernel, Or.inl ⟨rfl, lw_at 953 rfl rfl⟩, lw_at 85 (by decide +kernel) rfl, (fun h => by cases h), by decide⟩
def m_PJ_last : MI := (⟨"PlanJudge", "last", "(III)V"⟩, prog_1_method_14_code, 4, (Option.none : Option Jvm.ClassFile.FieldType), 1, false, [])
set_option maxRecDepth 20000 in
theorem ok_PJ_last : okMI m_PJ_last := ⟨rfl, by decide +kernel, Or.inl ⟨rfl, lw_at 960 rfl rfl⟩, lw_at 66 (by decide +kernel) rfl, (fun h => by cases h), by decide⟩
def m_Action_boundDuration : MI := (⟨"PlanJudge$Action", "boundDuration", "(IILPlanJudge$Fractions;)V"⟩, prog_2_method_6_code, 8, (Option.none : Option Jvm.ClassFile.FieldType), 17, false, [])
set_option maxRecDepth 20000 in
theorem ok_Action_boundDuration : okMI m_Action_boundDuration := ⟨rfl, by decide +kernel, Or.inl ⟨rfl, lw_at 964 rfl rfl⟩, lw_at 85 (by decide +kernel) rfl, (fun h => by cases h), by decide⟩
def m_PJ_step : MI := (⟨"PlanJudge", "step", "(I)I"⟩, prog_1_method_15_code, 2, (Option.some Jvm.ClassFile.FieldType.int), 1, false, [])
set_option maxRecDepth 20000 in
theorem ok_PJ_step : okMI m_PJ_step := ⟨rfl, by decide +kernel, Or.inl ⟨rfl, lw_at 971 rfl rfl⟩, lw_at 66 (by decide +kernel) rfl, (fun h => by cases h), by decide⟩
def m_Plan_addStep : MI := (⟨"PlanJudge$Plan", "addStep", "(I)I"⟩, prog_6_method_3_code, 2, (Option.some Jvm.ClassFile.FieldType.int), 10, false, [])
set_option maxRecDepth 20000 in
theorem ok_Plan_addStep : okMI m_Plan_addStep := ⟨rfl, by decide +kernel, Or.inl ⟨rfl, lw_at 975 rfl rfl⟩, lw_at 74 (by decide +kernel) rfl, (fun h => by cases h), by decide⟩
def m_PJ_push : MI := (⟨"PlanJudge", "push", "(I)V"⟩, prog_1_method_18_code, 2, (Option.none : Option Jvm.ClassFile.FieldType), 1, false, [])
set_option maxRecDepth 20000 in
theorem ok_PJ_push : okMI m_PJ_push := ⟨rfl, by decide +kernel, Or.inl ⟨rfl, lw_at 982 rfl rfl⟩, lw_at 66 (by decide +kernel) rfl, (fun h => by cases h), by decide⟩
def m_Plan_isInRow : MI := (⟨"PlanJudge$Plan", "isInRow", "(I)Z"⟩, prog_6_method_4_code, 2, (Option.some Jvm.ClassFile.FieldType.boolean), 10, false, [])
set_option maxRecDepth 20000 in
theorem ok_Plan_isInRow : okMI m_Plan_isInRow := ⟨rfl, by decide +kernel, Or.inl ⟨rfl, lw_at 986 rfl rfl⟩, lw_at 74 (by decide +kernel) rfl, (fun h => by cases h), by decide⟩
def m_Plan_addToRow : MI := (⟨"PlanJudge$Plan", "addToRow", "(I)V"⟩, prog_6_method_5_code, 2, (Option.none : Option Jvm.ClassFile.FieldType), 10, false, [])
set_option maxRecDepth 20000 in
theorem ok_Plan_addToRow : okMI m_Plan_addToRow := ⟨rfl, by decide +kernel, Or.inl ⟨rfl, lw_at 990 rfl rfl⟩, lw_at 74 (by decide +kernel) rfl, (fun h => by cases h), by decide⟩
def m_PJ_arrange : MI := (⟨"PlanJudge", "arrange", "()I"⟩, prog_1_method_20_code, 2, (Option.some Jvm.ClassFile.FieldType.int), 1, false, [])
set_option maxRecDepth 20000 in
theorem ok_PJ_arrange : okMI m_PJ_arrange := ⟨rfl, by decide +kernel, Or.inl ⟨rfl, lw_at 997 rfl rfl⟩, lw_at 66 (by decide +kernel) rfl, (fun h => by cases h), by decide⟩
def m_Arranger_findFault : MI := (⟨"PlanJudge$Arranger", "findFault", "(LPlanJudge$Task;LPlanJudge$Plan;)I"⟩, prog_3_method_3_code, 5, (Option.some Jvm.ClassFile.FieldType.int), 13, false, [])
set_option maxRecDepth 20000 in
theorem ok_Arranger_findFault : okMI m_Arranger_findFault := ⟨rfl, by decide +kernel, Or.inl ⟨rfl, lw_at 1001 rfl rfl⟩, lw_at 77 (by decide +kernel) rfl, (fun h => by cases h), by decide⟩
def m_Arranger_beginAt : MI := (⟨"PlanJudge$Arranger", "beginAt", "(LPlanJudge$State;)V"⟩, prog_3_method_2_code, 2, (Option.none : Option Jvm.ClassFile.FieldType), 13, false, [])
set_option maxRecDepth 20000 in
theorem ok_Arranger_beginAt : okMI m_Arranger_beginAt := ⟨rfl, by decide +kernel, Or.inl ⟨rfl, lw_at 1005 rfl rfl⟩, lw_at 77 (by decide +kernel) rfl, (fun h => by cases h), by decide⟩
def m_Arranger_addPoint : MI := (⟨"PlanJudge$Arranger", "addPoint", "(LPlanJudge$Task;II)I"⟩, prog_3_method_4_code, 10, (Option.some Jvm.ClassFile.FieldType.int), 13, false, [])
set_option maxRecDepth 20000 in
theorem ok_Arranger_addPoint : okMI m_Arranger_addPoint := ⟨rfl, by decide +kernel, Or.inl ⟨rfl, lw_at 1010 rfl rfl⟩, lw_at 77 (by decide +kernel) rfl, (fun h => by cases h), by decide⟩
def m_Arranger_findUnmetAllOver : MI := (⟨"PlanJudge$Arranger", "findUnmetAllOver", "(LPlanJudge$Task;LPlanJudge$State;I)I"⟩, prog_3_method_12_code, 5, (Option.some Jvm.ClassFile.FieldType.int), 13, false, [])
set_option maxRecDepth 20000 in
theorem ok_Arranger_findUnmetAllOver : okMI m_Arranger_findUnmetAllOver := ⟨rfl, by decide +kernel, Or.inl ⟨rfl, lw_at 1019 rfl rfl⟩, lw_at 77 (by decide +kernel) rfl, (fun h => by cases h), by decide⟩
def m_Arranger_writeBounds : MI := (⟨"PlanJudge$Arranger", "writeBounds", "(LPlanJudge$Task;LPlanJudge$Action;I)V"⟩, prog_3_method_13_code, 6, (Option.none : Option Jvm.ClassFile.FieldType), 13, false, [])
set_option maxRecDepth 20000 in
theorem ok_Arranger_writeBounds : okMI m_Arranger_writeBounds := ⟨rfl, by decide +kernel, Or.inl ⟨rfl, lw_at 1023 rfl rfl⟩, lw_at 77 (by decide +kernel) rfl, (fun h => by cases h), by decide⟩
def m_Arranger_findLatestInterfering : MI := (⟨"PlanJudge$Arranger", "findLatestInterfering", "(LPlanJudge$Task;LPlanJudge$Action;I)I"⟩, prog_3_method_14_code, 6, (Option.some Jvm.ClassFile.FieldType.int), 13, false, [])
set_option maxRecDepth 20000 in
theorem ok_Arranger_findLatestInterfering : okMI m_Arranger_findLatestInterfering := ⟨rfl, by decide +kernel, Or.inl ⟨rfl, lw_at 1030 rfl rfl⟩, lw_at 77 (by decide +kernel) rfl, (fun h => by cases h), by decide⟩
def m_Arranger_findLateFault : MI := (⟨"PlanJudge$Arranger", "findLateFault", "(LPlanJudge$Task;)I"⟩, prog_3_method_8_code, 2, (Option.some Jvm.ClassFile.FieldType.int), 13, false, [])
set_option maxRecDepth 20000 in
theorem ok_Arranger_findLateFault : okMI m_Arranger_findLateFault := ⟨rfl, by decide +kernel, Or.inl ⟨rfl, lw_at 1035 rfl rfl⟩, lw_at 77 (by decide +kernel) rfl, (fun h => by cases h), by decide⟩
def m_Arranger_findUnit : MI := (⟨"PlanJudge$Arranger", "findUnit", "(LPlanJudge$Task;)Z"⟩, prog_3_method_15_code, 4, (Option.some Jvm.ClassFile.FieldType.boolean), 13, false, [])
set_option maxRecDepth 20000 in
theorem ok_Arranger_findUnit : okMI m_Arranger_findUnit := ⟨rfl, by decide +kernel, Or.inl ⟨rfl, lw_at 1040 rfl rfl⟩, lw_at 77 (by decide +kernel) rfl, (fun h => by cases h), by decide⟩
def m_Arranger_refineUnit : MI := (⟨"PlanJudge$Arranger", "refineUnit", "(LPlanJudge$Fractions;I)Z"⟩, prog_3_method_16_code, 3, (Option.some Jvm.ClassFile.FieldType.boolean), 13, false, [])
set_option maxRecDepth 20000 in
theorem ok_Arranger_refineUnit : okMI m_Arranger_refineUnit := ⟨rfl, by decide +kernel, Or.inl ⟨rfl, lw_at 1044 rfl rfl⟩, lw_at 77 (by decide +kernel) rfl, (fun h => by cases h), by decide⟩
def m_Fractions_isAbove : MI := (⟨"PlanJudge$Fractions", "isAbove", "(IJ)Z"⟩, prog_4_method_7_code, 4, (Option.some Jvm.ClassFile.FieldType.boolean), 3, false, [])
set_option maxRecDepth 20000 in
theorem ok_Fractions_isAbove : okMI m_Fractions_isAbove := ⟨rfl, by decide +kernel, Or.inl ⟨rfl, lw_at 1051 rfl rfl⟩, lw_at 67 (by decide +kernel) rfl, (fun h => by cases h), by decide⟩
def m_Arranger_findTimes : MI := (⟨"PlanJudge$Arranger", "findTimes", "(LPlanJudge$Task;)Z"⟩, prog_3_method_18_code, 5, (Option.some Jvm.ClassFile.FieldType.boolean), 13, false, [])
set_option maxRecDepth 20000 in
theorem ok_Arranger_findTimes : okMI m_Arranger_findTimes := ⟨rfl, by decide +kernel, Or.inl ⟨rfl, lw_at 1055 rfl rfl⟩, lw_at 77 (by decide +kernel) rfl, (fun h => by cases h), by decide⟩
def m_Arranger_inUnits : MI := (⟨"PlanJudge$Arranger", "inUnits", "(LPlanJudge$Fractions;I)J"⟩, prog_3_method_17_code, 3, (Option.some Jvm.ClassFile.FieldType.long), 13, false, [])
set_option maxRecDepth 20000 in
theorem ok_Arranger_inUnits : okMI m_Arranger_inUnits := ⟨rfl, by decide +kernel, Or.inl ⟨rfl, lw_at 1059 rfl rfl⟩, lw_at 77 (by decide +kernel) rfl, (fun h => by cases h), by decide⟩
def m_Arranger_delayPoints : MI := (⟨"PlanJudge$Arranger", "delayPoints", "(J)V"⟩, prog_3_method_19_code, 7, (Option.none : Option Jvm.ClassFile.FieldType), 13, false, [])
set_option maxRecDepth 20000 in
theorem ok_Arranger_delayPoints : okMI m_Arranger_delayPoints := ⟨rfl, by decide +kernel, Or.inl ⟨rfl, lw_at 1064 rfl rfl⟩, lw_at 77 (by decide +kernel) rfl, (fun h => by cases h), by decide⟩
def m_Math_max2 : MI := (⟨"java/lang/Math", "max", "(JJ)J"⟩, prog_20_method_66_code, 4, (Option.some Jvm.ClassFile.FieldType.long), 14, false, [])
set_option maxRecDepth 20000 in
theorem ok_Math_max2 : okMI m_Math_max2 := ⟨rfl, by decide +kernel, Or.inl ⟨rfl, lw_at 1067 rfl rfl⟩, lw_at 88 (by decide +kernel) rfl, (fun h => by cases h), by decide⟩
def m_Arranger_delayStarts : MI := (⟨"PlanJudge$Arranger", "delayStarts", "()Z"⟩, prog_3_method_20_code, 6, (Option.some Jvm.ClassFile.FieldType.boolean), 13, false, [])
set_option maxRecDepth 20000 in
theorem ok_Arranger_delayStarts : okMI m_Arranger_delayStarts := ⟨rfl, by decide +kernel, Or.inl ⟨rfl, lw_at 1072 rfl rfl⟩, lw_at 77 (by decide +kernel) rfl, (fun h => by cases h), by decide⟩
def m_Arranger_tellTimes : MI := (⟨"PlanJudge$Arranger", "tellTimes", "(LPlanJudge$Plan;)V"⟩, prog_3_method_11_code, 4, (Option.none : Option Jvm.ClassFile.FieldType), 13, false, [])
set_option maxRecDepth 20000 in
theorem ok_Arranger_tellTimes : okMI m_Arranger_tellTimes := ⟨rfl, by decide +kernel, Or.inl ⟨rfl, lw_at 1076 rfl rfl⟩, lw_at 77 (by decide +kernel) rfl, (fun h => by cases h), by decide⟩
def m_Arranger_reached : MI := (⟨"PlanJudge$Arranger", "reached", "(I)LPlanJudge$State;"⟩, prog_3_method_9_code, 2, (Option.some (Jvm.ClassFile.FieldType.object "PlanJudge$State")), 13, false, [])
set_option maxRecDepth 20000 in
theorem ok_Arranger_reached : okMI m_Arranger_reached := ⟨rfl, by decide +kernel, Or.inl ⟨rfl, lw_at 1080 rfl rfl⟩, lw_at 77 (by decide +kernel) rfl, (fun h => by cases h), by decide⟩
def m_PJ_seek : MI := (⟨"PlanJudge", "seek", "(I)I"⟩, prog_1_method_21_code, 3, (Option.some Jvm.ClassFile.FieldType.int), 1, false, [])
set_option maxRecDepth 20000 in
theorem ok_PJ_seek : okMI m_PJ_seek := ⟨rfl, by decide +kernel, Or.inl ⟨rfl, lw_at 1087 rfl rfl⟩, lw_at 66 (by decide +kernel) rfl, (fun h => by cases h), by decide⟩
def m_PJ_completes : MI := (⟨"PlanJudge", "completes", "(LPlanJudge$Task;LPlanJudge$Arranger;I)Z"⟩, prog_1_method_31_code, 10, (Option.some Jvm.ClassFile.FieldType.boolean), 1, false, [])
set_option maxRecDepth 20000 in
theorem ok_PJ_completes : okMI m_PJ_completes := ⟨rfl, by decide +kernel, Or.inl ⟨rfl, lw_at 1091 rfl rfl⟩, lw_at 66 (by decide +kernel) rfl, (fun h => by cases h), by decide⟩
def m_Arranger_openSteps : MI := (⟨"PlanJudge$Arranger", "openSteps", "()I"⟩, prog_3_method_7_code, 1, (Option.some Jvm.ClassFile.FieldType.int), 13, false, [])
set_option maxRecDepth 20000 in
theorem ok_Arranger_openSteps : okMI m_Arranger_openSteps := ⟨rfl, by decide +kernel, Or.inl ⟨rfl, lw_at 1096 rfl rfl⟩, lw_at 77 (by decide +kernel) rfl, (fun h => by cases h), by decide⟩
def m_Arranger_isOpen : MI := (⟨"PlanJudge$Arranger", "isOpen", "(I)Z"⟩, prog_3_method_6_code, 2, (Option.some Jvm.ClassFile.FieldType.boolean), 13, false, [])
set_option maxRecDepth 20000 in
theorem ok_Arranger_isOpen : okMI m_Arranger_isOpen := ⟨rfl, by decide +kernel, Or.inl ⟨rfl, lw_at 1100 rfl rfl⟩, lw_at 77 (by decide +kernel) rfl, (fun h => by cases h), by decide⟩
def m_Arranger_takePointBack : MI := (⟨"PlanJudge$Arranger", "takePointBack", "()V"⟩, prog_3_method_5_code, 1, (Option.none : Option Jvm.ClassFile.FieldType), 13, false, [])
set_option maxRecDepth 20000 in
theorem ok_Arranger_takePointBack : okMI m_Arranger_takePointBack := ⟨rfl, by decide +kernel, Or.inl ⟨rfl, lw_at 1105 rfl rfl⟩, lw_at 77 (by decide +kernel) rfl, (fun h => by cases h), by decide⟩
def m_Arranger_tellRow : MI := (⟨"PlanJudge$Arranger", "tellRow", "(LPlanJudge$Plan;)V"⟩, prog_3_method_10_code, 3, (Option.none : Option Jvm.ClassFile.FieldType), 13, false, [])
set_option maxRecDepth 20000 in
theorem ok_Arranger_tellRow : okMI m_Arranger_tellRow := ⟨rfl, by decide +kernel, Or.inl ⟨rfl, lw_at 1109 rfl rfl⟩, lw_at 77 (by decide +kernel) rfl, (fun h => by cases h), by decide⟩
def m_PJ_count : MI := (⟨"PlanJudge", "count", "(I)I"⟩, prog_1_method_22_code, 2, (Option.some Jvm.ClassFile.FieldType.int), 1, false, [])
set_option maxRecDepth 20000 in
theorem ok_PJ_count : okMI m_PJ_count := ⟨rfl, by decide +kernel, Or.inl ⟨rfl, lw_at 1119 rfl rfl⟩, lw_at 66 (by decide +kernel) rfl, (fun h => by cases h), by decide⟩
def m_PJ_done : MI := (⟨"PlanJudge", "done", "(I)I"⟩, prog_1_method_23_code, 2, (Option.some Jvm.ClassFile.FieldType.int), 1, false, [])
set_option maxRecDepth 20000 in
theorem ok_PJ_done : okMI m_PJ_done := ⟨rfl, by decide +kernel, Or.inl ⟨rfl, lw_at 1126 rfl rfl⟩, lw_at 66 (by decide +kernel) rfl, (fun h => by cases h), by decide⟩
def m_PJ_above : MI := (⟨"PlanJudge", "above", "(II)J"⟩, prog_1_method_25_code, 3, (Option.some Jvm.ClassFile.FieldType.long), 1, false, [])
set_option maxRecDepth 20000 in
theorem ok_PJ_above : okMI m_PJ_above := ⟨rfl, by decide +kernel, Or.inl ⟨rfl, lw_at 1133 rfl rfl⟩, lw_at 66 (by decide +kernel) rfl, (fun h => by cases h), by decide⟩
def m_PJ_rowAskedFor : MI := (⟨"PlanJudge", "rowAskedFor", "(II)LPlanJudge$Fractions;"⟩, prog_1_method_29_code, 3, (Option.some (Jvm.ClassFile.FieldType.object "PlanJudge$Fractions")), 1, false, [])
set_option maxRecDepth 20000 in
theorem ok_PJ_rowAskedFor : okMI m_PJ_rowAskedFor := ⟨rfl, by decide +kernel, Or.inl ⟨rfl, lw_at 1137 rfl rfl⟩, lw_at 66 (by decide +kernel) rfl, (fun h => by cases h), by decide⟩
def m_PJ_latestState : MI := (⟨"PlanJudge", "latestState", "()LPlanJudge$State;"⟩, prog_1_method_30_code, 1, (Option.some (Jvm.ClassFile.FieldType.object "PlanJudge$State")), 1, false, [])
set_option maxRecDepth 20000 in
theorem ok_PJ_latestState : okMI m_PJ_latestState := ⟨rfl, by decide +kernel, Or.inl ⟨rfl, lw_at 1141 rfl rfl⟩, lw_at 66 (by decide +kernel) rfl, (fun h => by cases h), by decide⟩
def m_PJ_below : MI := (⟨"PlanJudge", "below", "(II)J"⟩, prog_1_method_26_code, 3, (Option.some Jvm.ClassFile.FieldType.long), 1, false, [])
set_option maxRecDepth 20000 in
theorem ok_PJ_below : okMI m_PJ_below := ⟨rfl, by decide +kernel, Or.inl ⟨rfl, lw_at 1148 rfl rfl⟩, lw_at 66 (by decide +kernel) rfl, (fun h => by cases h), by decide⟩
def m_PJ_holds : MI := (⟨"PlanJudge", "holds", "(I)Z"⟩, prog_1_method_27_code, 2, (Option.some Jvm.ClassFile.FieldType.boolean), 1, false, [])
set_option maxRecDepth 20000 in
theorem ok_PJ_holds : okMI m_PJ_holds := ⟨rfl, by decide +kernel, Or.inl ⟨rfl, lw_at 1155 rfl rfl⟩, lw_at 66 (by decide +kernel) rfl, (fun h => by cases h), by decide⟩
def m_Mo_init : MI := (⟨"PlanJudgeModel", "<init>", "()V"⟩, prog_12_method_1_code, 2, (Option.none : Option Jvm.ClassFile.FieldType), 26, true, [])
set_option maxRecDepth 20000 in
theorem ok_Mo_init : okMI m_Mo_init := ⟨rfl, by decide +kernel, Or.inl ⟨rfl, lw_at 1160 rfl rfl⟩, lw_at 78 (by decide +kernel) rfl, fun _ => rfl, by decide⟩
def m_Mo_thrown : MI := (⟨"PlanJudgeModel", "thrown", "()I"⟩, prog_12_method_2_code, 1, (Option.some Jvm.ClassFile.FieldType.int), 26, false, [])
set_option maxRecDepth 20000 in
theorem ok_Mo_thrown : okMI m_Mo_thrown := ⟨rfl, by decide +kernel, Or.inl ⟨rfl, lw_at 1371 rfl rfl⟩, lw_at 78 (by decide +kernel) rfl, (fun h => by cases h), by decide⟩
def m_Mo_amount : MI := (⟨"PlanJudgeModel", "amount", "(II)V"⟩, prog_12_method_12_code, 3, (Option.none : Option Jvm.ClassFile.FieldType), 26, false, [])
set_option maxRecDepth 20000 in
theorem ok_Mo_amount : okMI m_Mo_amount := ⟨rfl, by decide +kernel, Or.inl ⟨rfl, lw_at 1375 rfl rfl⟩, lw_at 78 (by decide +kernel) rfl, (fun h => by cases h), by decide⟩
def m_Mo_isFraction : MI := (⟨"PlanJudgeModel", "isFraction", "(II)Z"⟩, prog_12_method_11_code, 2, (Option.some Jvm.ClassFile.FieldType.boolean), 26, false, [])
set_option maxRecDepth 20000 in
theorem ok_Mo_isFraction : okMI m_Mo_isFraction := ⟨rfl, by decide +kernel, Or.inl ⟨rfl, lw_at 1378 rfl rfl⟩, lw_at 78 (by decide +kernel) rfl, (fun h => by cases h), by decide⟩
def m_Mo_in : MI := (⟨"PlanJudgeModel", "in", "(III)Z"⟩, prog_12_method_4_code, 3, (Option.some Jvm.ClassFile.FieldType.boolean), 26, false, [])
set_option maxRecDepth 20000 in
theorem ok_Mo_in : okMI m_Mo_in := ⟨rfl, by decide +kernel, Or.inl ⟨rfl, lw_at 1383 rfl rfl⟩, lw_at 78 (by decide +kernel) rfl, (fun h => by cases h), by decide⟩
def m_Mo_out : MI := (⟨"PlanJudgeModel", "out", "(JJ)V"⟩, prog_12_method_7_code, 7, (Option.none : Option Jvm.ClassFile.FieldType), 26, false, [])
set_option maxRecDepth 20000 in
theorem ok_Mo_out : okMI m_Mo_out := ⟨rfl, by decide +kernel, Or.inl ⟨rfl, lw_at 1387 rfl rfl⟩, lw_at 78 (by decide +kernel) rfl, (fun h => by cases h), by decide⟩
def m_Mo_common : MI := (⟨"PlanJudgeModel", "common", "(JJ)J"⟩, prog_12_method_6_code, 10, (Option.some Jvm.ClassFile.FieldType.long), 26, false, [])
set_option maxRecDepth 20000 in
theorem ok_Mo_common : okMI m_Mo_common := ⟨rfl, by decide +kernel, Or.inl ⟨rfl, lw_at 1390 rfl rfl⟩, lw_at 78 (by decide +kernel) rfl, (fun h => by cases h), by decide⟩
def m_Mo_size : MI := (⟨"PlanJudgeModel", "size", "(J)J"⟩, prog_12_method_5_code, 2, (Option.some Jvm.ClassFile.FieldType.long), 26, false, [])
set_option maxRecDepth 20000 in
theorem ok_Mo_size : okMI m_Mo_size := ⟨rfl, by decide +kernel, Or.inl ⟨rfl, lw_at 1393 rfl rfl⟩, lw_at 78 (by decide +kernel) rfl, (fun h => by cases h), by decide⟩
def m_Mo_moment : MI := (⟨"PlanJudgeModel", "moment", "(II)V"⟩, prog_12_method_13_code, 3, (Option.none : Option Jvm.ClassFile.FieldType), 26, false, [])
set_option maxRecDepth 20000 in
theorem ok_Mo_moment : okMI m_Mo_moment := ⟨rfl, by decide +kernel, Or.inl ⟨rfl, lw_at 1397 rfl rfl⟩, lw_at 78 (by decide +kernel) rfl, (fun h => by cases h), by decide⟩
def m_Mo_epsilon : MI := (⟨"PlanJudgeModel", "epsilon", "()V"⟩, prog_12_method_14_code, 1, (Option.none : Option Jvm.ClassFile.FieldType), 26, false, [])
set_option maxRecDepth 20000 in
theorem ok_Mo_epsilon : okMI m_Mo_epsilon := ⟨rfl, by decide +kernel, Or.inl ⟨rfl, lw_at 1401 rfl rfl⟩, lw_at 78 (by decide +kernel) rfl, (fun h => by cases h), by decide⟩
def m_Mo_fact : MI := (⟨"PlanJudgeModel", "fact", "(IZ)V"⟩, prog_12_method_18_code, 3, (Option.none : Option Jvm.ClassFile.FieldType), 26, false, [])
set_option maxRecDepth 20000 in
theorem ok_Mo_fact : okMI m_Mo_fact := ⟨rfl, by decide +kernel, Or.inl ⟨rfl, lw_at 1405 rfl rfl⟩, lw_at 78 (by decide +kernel) rfl, (fun h => by cases h), by decide⟩
def m_Mo_isFact : MI := (⟨"PlanJudgeModel", "isFact", "(I)Z"⟩, prog_12_method_15_code, 1, (Option.some Jvm.ClassFile.FieldType.boolean), 26, false, [])
set_option maxRecDepth 20000 in
theorem ok_Mo_isFact : okMI m_Mo_isFact := ⟨rfl, by decide +kernel, Or.inl ⟨rfl, lw_at 1408 rfl rfl⟩, lw_at 78 (by decide +kernel) rfl, (fun h => by cases h), by decide⟩
def m_Mo_number : MI := (⟨"PlanJudgeModel", "number", "(I)V"⟩, prog_12_method_19_code, 2, (Option.none : Option Jvm.ClassFile.FieldType), 26, false, [])
set_option maxRecDepth 20000 in
theorem ok_Mo_number : okMI m_Mo_number := ⟨rfl, by decide +kernel, Or.inl ⟨rfl, lw_at 1412 rfl rfl⟩, lw_at 78 (by decide +kernel) rfl, (fun h => by cases h), by decide⟩
def m_Mo_isNumber : MI := (⟨"PlanJudgeModel", "isNumber", "(I)Z"⟩, prog_12_method_16_code, 1, (Option.some Jvm.ClassFile.FieldType.boolean), 26, false, [])
set_option maxRecDepth 20000 in
theorem ok_Mo_isNumber : okMI m_Mo_isNumber := ⟨rfl, by decide +kernel, Or.inl ⟨rfl, lw_at 1415 rfl rfl⟩, lw_at 78 (by decide +kernel) rfl, (fun h => by cases h), by decide⟩
def m_Mo_wish : MI := (⟨"PlanJudgeModel", "wish", "(II)V"⟩, prog_12_method_20_code, 3, (Option.none : Option Jvm.ClassFile.FieldType), 26, false, [])
set_option maxRecDepth 20000 in
theorem ok_Mo_wish : okMI m_Mo_wish := ⟨rfl, by decide +kernel, Or.inl ⟨rfl, lw_at 1419 rfl rfl⟩, lw_at 78 (by decide +kernel) rfl, (fun h => by cases h), by decide⟩
def m_Mo_want : MI := (⟨"PlanJudgeModel", "want", "(II)V"⟩, prog_12_method_21_code, 3, (Option.none : Option Jvm.ClassFile.FieldType), 26, false, [])
set_option maxRecDepth 20000 in
theorem ok_Mo_want : okMI m_Mo_want := ⟨rfl, by decide +kernel, Or.inl ⟨rfl, lw_at 1423 rfl rfl⟩, lw_at 78 (by decide +kernel) rfl, (fun h => by cases h), by decide⟩
def m_Mo_action : MI := (⟨"PlanJudgeModel", "action", "()I"⟩, prog_12_method_22_code, 1, (Option.some Jvm.ClassFile.FieldType.int), 26, false, [])
set_option maxRecDepth 20000 in
theorem ok_Mo_action : okMI m_Mo_action := ⟨rfl, by decide +kernel, Or.inl ⟨rfl, lw_at 1427 rfl rfl⟩, lw_at 78 (by decide +kernel) rfl, (fun h => by cases h), by decide⟩
def m_Mo_need : MI := (⟨"PlanJudgeModel", "need", "(IIIZ)V"⟩, prog_12_method_24_code, 5, (Option.none : Option Jvm.ClassFile.FieldType), 26, false, [])
set_option maxRecDepth 20000 in
theorem ok_Mo_need : okMI m_Mo_need := ⟨rfl, by decide +kernel, Or.inl ⟨rfl, lw_at 1431 rfl rfl⟩, lw_at 78 (by decide +kernel) rfl, (fun h => by cases h), by decide⟩
def m_Mo_isAction : MI := (⟨"PlanJudgeModel", "isAction", "(I)Z"⟩, prog_12_method_17_code, 2, (Option.some Jvm.ClassFile.FieldType.boolean), 26, false, [])
set_option maxRecDepth 20000 in
theorem ok_Mo_isAction : okMI m_Mo_isAction := ⟨rfl, by decide +kernel, Or.inl ⟨rfl, lw_at 1435 rfl rfl⟩, lw_at 78 (by decide +kernel) rfl, (fun h => by cases h), by decide⟩
def m_Mo_addNeed : MI := (⟨"PlanJudgeModel", "addNeed", "(IIII)V"⟩, prog_12_method_23_code, 6, (Option.none : Option Jvm.ClassFile.FieldType), 26, false, [])
set_option maxRecDepth 20000 in
theorem ok_Mo_addNeed : okMI m_Mo_addNeed := ⟨rfl, by decide +kernel, Or.inl ⟨rfl, lw_at 1439 rfl rfl⟩, lw_at 78 (by decide +kernel) rfl, (fun h => by cases h), by decide⟩
def m_Mo_compare : MI := (⟨"PlanJudgeModel", "compare", "(IIII)V"⟩, prog_12_method_25_code, 5, (Option.none : Option Jvm.ClassFile.FieldType), 26, false, [])
set_option maxRecDepth 20000 in
theorem ok_Mo_compare : okMI m_Mo_compare := ⟨rfl, by decide +kernel, Or.inl ⟨rfl, lw_at 1443 rfl rfl⟩, lw_at 78 (by decide +kernel) rfl, (fun h => by cases h), by decide⟩
def m_Mo_make : MI := (⟨"PlanJudgeModel", "make", "(IIIZ)V"⟩, prog_12_method_28_code, 5, (Option.none : Option Jvm.ClassFile.FieldType), 26, false, [])
set_option maxRecDepth 20000 in
theorem ok_Mo_make : okMI m_Mo_make := ⟨rfl, by decide +kernel, Or.inl ⟨rfl, lw_at 1447 rfl rfl⟩, lw_at 78 (by decide +kernel) rfl, (fun h => by cases h), by decide⟩
def m_Mo_changing : MI := (⟨"PlanJudgeModel", "changing", "(IIZI)I"⟩, prog_12_method_26_code, 6, (Option.some Jvm.ClassFile.FieldType.int), 26, false, [])
set_option maxRecDepth 20000 in
theorem ok_Mo_changing : okMI m_Mo_changing := ⟨rfl, by decide +kernel, Or.inl ⟨rfl, lw_at 1451 rfl rfl⟩, lw_at 78 (by decide +kernel) rfl, (fun h => by cases h), by decide⟩
def m_Mo_addChange : MI := (⟨"PlanJudgeModel", "addChange", "(IIII)V"⟩, prog_12_method_27_code, 6, (Option.none : Option Jvm.ClassFile.FieldType), 26, false, [])
set_option maxRecDepth 20000 in
theorem ok_Mo_addChange : okMI m_Mo_addChange := ⟨rfl, by decide +kernel, Or.inl ⟨rfl, lw_at 1455 rfl rfl⟩, lw_at 78 (by decide +kernel) rfl, (fun h => by cases h), by decide⟩
def m_Mo_change : MI := (⟨"PlanJudgeModel", "change", "(IIII)V"⟩, prog_12_method_29_code, 5, (Option.none : Option Jvm.ClassFile.FieldType), 26, false, [])
set_option maxRecDepth 20000 in
theorem ok_Mo_change : okMI m_Mo_change := ⟨rfl, by decide +kernel, Or.inl ⟨rfl, lw_at 1459 rfl rfl⟩, lw_at 78 (by decide +kernel) rfl, (fun h => by cases h), by decide⟩
def m_Mo_last : MI := (⟨"PlanJudgeModel", "last", "(III)V"⟩, prog_12_method_30_code, 4, (Option.none : Option Jvm.ClassFile.FieldType), 26, false, [])
set_option maxRecDepth 20000 in
theorem ok_Mo_last : okMI m_Mo_last := ⟨rfl, by decide +kernel, Or.inl ⟨rfl, lw_at 1463 rfl rfl⟩, lw_at 78 (by decide +kernel) rfl, (fun h => by cases h), by decide⟩
def m_Mo_step : MI := (⟨"PlanJudgeModel", "step", "(I)I"⟩, prog_12_method_31_code, 2, (Option.some Jvm.ClassFile.FieldType.int), 26, false, [])
set_option maxRecDepth 20000 in
theorem ok_Mo_step : okMI m_Mo_step := ⟨rfl, by decide +kernel, Or.inl ⟨rfl, lw_at 1467 rfl rfl⟩, lw_at 78 (by decide +kernel) rfl, (fun h => by cases h), by decide⟩
def m_Mo_clear : MI := (⟨"PlanJudgeModel", "clear", "()V"⟩, prog_12_method_32_code, 1, (Option.none : Option Jvm.ClassFile.FieldType), 26, false, [])
set_option maxRecDepth 20000 in
theorem ok_Mo_clear : okMI m_Mo_clear := ⟨rfl, by decide +kernel, Or.inl ⟨rfl, lw_at 1471 rfl rfl⟩, lw_at 78 (by decide +kernel) rfl, (fun h => by cases h), by decide⟩
def m_Mo_judge : MI := (⟨"PlanJudgeModel", "judge", "()I"⟩, prog_12_method_56_code, 2, (Option.some Jvm.ClassFile.FieldType.int), 26, false, [])
set_option maxRecDepth 20000 in
theorem ok_Mo_judge : okMI m_Mo_judge := ⟨rfl, by decide +kernel, Or.inl ⟨rfl, lw_at 1475 rfl rfl⟩, lw_at 78 (by decide +kernel) rfl, (fun h => by cases h), by decide⟩
def m_Mo_takePlan : MI := (⟨"PlanJudgeModel", "takePlan", "()V"⟩, prog_12_method_48_code, 2, (Option.none : Option Jvm.ClassFile.FieldType), 26, false, [])
set_option maxRecDepth 20000 in
theorem ok_Mo_takePlan : okMI m_Mo_takePlan := ⟨rfl, by decide +kernel, Or.inl ⟨rfl, lw_at 1479 rfl rfl⟩, lw_at 78 (by decide +kernel) rfl, (fun h => by cases h), by decide⟩
def m_Mo_takeTimes : MI := (⟨"PlanJudgeModel", "takeTimes", "()V"⟩, prog_12_method_49_code, 2, (Option.none : Option Jvm.ClassFile.FieldType), 26, false, [])
set_option maxRecDepth 20000 in
theorem ok_Mo_takeTimes : okMI m_Mo_takeTimes := ⟨rfl, by decide +kernel, Or.inl ⟨rfl, lw_at 1483 rfl rfl⟩, lw_at 78 (by decide +kernel) rfl, (fun h => by cases h), by decide⟩
def m_Mo_beginState : MI := (⟨"PlanJudgeModel", "beginState", "()V"⟩, prog_12_method_38_code, 2, (Option.none : Option Jvm.ClassFile.FieldType), 26, false, [])
set_option maxRecDepth 20000 in
theorem ok_Mo_beginState : okMI m_Mo_beginState := ⟨rfl, by decide +kernel, Or.inl ⟨rfl, lw_at 1487 rfl rfl⟩, lw_at 78 (by decide +kernel) rfl, (fun h => by cases h), by decide⟩
def m_Mo_mark : MI := (⟨"PlanJudgeModel", "mark", "()Z"⟩, prog_12_method_50_code, 3, (Option.some Jvm.ClassFile.FieldType.boolean), 26, false, [])
set_option maxRecDepth 20000 in
theorem ok_Mo_mark : okMI m_Mo_mark := ⟨rfl, by decide +kernel, Or.inl ⟨rfl, lw_at 1491 rfl rfl⟩, lw_at 78 (by decide +kernel) rfl, (fun h => by cases h), by decide⟩
def m_Mo_orderOf : MI := (⟨"PlanJudgeModel", "orderOf", "(II)I"⟩, prog_12_method_47_code, 3, (Option.some Jvm.ClassFile.FieldType.int), 26, false, [])
set_option maxRecDepth 20000 in
theorem ok_Mo_orderOf : okMI m_Mo_orderOf := ⟨rfl, by decide +kernel, Or.inl ⟨rfl, lw_at 1495 rfl rfl⟩, lw_at 78 (by decide +kernel) rfl, (fun h => by cases h), by decide⟩
def m_Mo_order : MI := (⟨"PlanJudgeModel", "order", "(JJJJ)I"⟩, prog_12_method_9_code, 24, (Option.some Jvm.ClassFile.FieldType.int), 26, false, [])
set_option maxRecDepth 20000 in
theorem ok_Mo_order : okMI m_Mo_order := ⟨rfl, by decide +kernel, Or.inl ⟨rfl, lw_at 1498 rfl rfl⟩, lw_at 78 (by decide +kernel) rfl, (fun h => by cases h), by decide⟩
def m_Mo_floor : MI := (⟨"PlanJudgeModel", "floor", "(JJ)J"⟩, prog_12_method_8_code, 6, (Option.some Jvm.ClassFile.FieldType.long), 26, false, [])
set_option maxRecDepth 20000 in
theorem ok_Mo_floor : okMI m_Mo_floor := ⟨rfl, by decide +kernel, Or.inl ⟨rfl, lw_at 1501 rfl rfl⟩, lw_at 78 (by decide +kernel) rfl, (fun h => by cases h), by decide⟩
def m_Mo_passed : MI := (⟨"PlanJudgeModel", "passed", "()I"⟩, prog_12_method_54_code, 2, (Option.some Jvm.ClassFile.FieldType.int), 26, false, [])
set_option maxRecDepth 20000 in
theorem ok_Mo_passed : okMI m_Mo_passed := ⟨rfl, by decide +kernel, Or.inl ⟨rfl, lw_at 1505 rfl rfl⟩, lw_at 78 (by decide +kernel) rfl, (fun h => by cases h), by decide⟩
def m_Mo_isWrong : MI := (⟨"PlanJudgeModel", "isWrong", "(II)Z"⟩, prog_12_method_53_code, 3, (Option.some Jvm.ClassFile.FieldType.boolean), 26, false, [])
set_option maxRecDepth 20000 in
theorem ok_Mo_isWrong : okMI m_Mo_isWrong := ⟨rfl, by decide +kernel, Or.inl ⟨rfl, lw_at 1509 rfl rfl⟩, lw_at 78 (by decide +kernel) rfl, (fun h => by cases h), by decide⟩
def m_Mo_isDisturbed : MI := (⟨"PlanJudgeModel", "isDisturbed", "(I)Z"⟩, prog_12_method_51_code, 4, (Option.some Jvm.ClassFile.FieldType.boolean), 26, false, [])
set_option maxRecDepth 20000 in
theorem ok_Mo_isDisturbed : okMI m_Mo_isDisturbed := ⟨rfl, by decide +kernel, Or.inl ⟨rfl, lw_at 1513 rfl rfl⟩, lw_at 78 (by decide +kernel) rfl, (fun h => by cases h), by decide⟩
def m_Mo_interfere : MI := (⟨"PlanJudgeModel", "interfere", "(II)Z"⟩, prog_12_method_37_code, 5, (Option.some Jvm.ClassFile.FieldType.boolean), 26, false, [])
set_option maxRecDepth 20000 in
theorem ok_Mo_interfere : okMI m_Mo_interfere := ⟨rfl, by decide +kernel, Or.inl ⟨rfl, lw_at 1517 rfl rfl⟩, lw_at 78 (by decide +kernel) rfl, (fun h => by cases h), by decide⟩
def m_Mo_clash : MI := (⟨"PlanJudgeModel", "clash", "(IIZI)Z"⟩, prog_12_method_36_code, 7, (Option.some Jvm.ClassFile.FieldType.boolean), 26, false, [])
set_option maxRecDepth 20000 in
theorem ok_Mo_clash : okMI m_Mo_clash := ⟨rfl, by decide +kernel, Or.inl ⟨rfl, lw_at 1521 rfl rfl⟩, lw_at 78 (by decide +kernel) rfl, (fun h => by cases h), by decide⟩
def m_Mo_howChanged : MI := (⟨"PlanJudgeModel", "howChanged", "(IZI)I"⟩, prog_12_method_35_code, 5, (Option.some Jvm.ClassFile.FieldType.int), 26, false, [])
set_option maxRecDepth 20000 in
theorem ok_Mo_howChanged : okMI m_Mo_howChanged := ⟨rfl, by decide +kernel, Or.inl ⟨rfl, lw_at 1525 rfl rfl⟩, lw_at 78 (by decide +kernel) rfl, (fun h => by cases h), by decide⟩
def m_Mo_timeOf : MI := (⟨"PlanJudgeModel", "timeOf", "(I)I"⟩, prog_12_method_33_code, 1, (Option.some Jvm.ClassFile.FieldType.int), 26, false, [])
set_option maxRecDepth 20000 in
theorem ok_Mo_timeOf : okMI m_Mo_timeOf := ⟨rfl, by decide +kernel, Or.inl ⟨rfl, lw_at 1528 rfl rfl⟩, lw_at 78 (by decide +kernel) rfl, (fun h => by cases h), by decide⟩
def m_Mo_looksAt : MI := (⟨"PlanJudgeModel", "looksAt", "(IZI)Z"⟩, prog_12_method_34_code, 6, (Option.some Jvm.ClassFile.FieldType.boolean), 26, false, [])
set_option maxRecDepth 20000 in
theorem ok_Mo_looksAt : okMI m_Mo_looksAt := ⟨rfl, by decide +kernel, Or.inl ⟨rfl, lw_at 1532 rfl rfl⟩, lw_at 78 (by decide +kernel) rfl, (fun h => by cases h), by decide⟩
def m_Mo_isFit : MI := (⟨"PlanJudgeModel", "isFit", "(II)Z"⟩, prog_12_method_42_code, 6, (Option.some Jvm.ClassFile.FieldType.boolean), 26, false, [])
set_option maxRecDepth 20000 in
theorem ok_Mo_isFit : okMI m_Mo_isFit := ⟨rfl, by decide +kernel, Or.inl ⟨rfl, lw_at 1536 rfl rfl⟩, lw_at 78 (by decide +kernel) rfl, (fun h => by cases h), by decide⟩
def m_Mo_isSo : MI := (⟨"PlanJudgeModel", "isSo", "(I)Z"⟩, prog_12_method_41_code, 3, (Option.some Jvm.ClassFile.FieldType.boolean), 26, false, [])
set_option maxRecDepth 20000 in
theorem ok_Mo_isSo : okMI m_Mo_isSo := ⟨rfl, by decide +kernel, Or.inl ⟨rfl, lw_at 1540 rfl rfl⟩, lw_at 78 (by decide +kernel) rfl, (fun h => by cases h), by decide⟩
def m_Mo_compares : MI := (⟨"PlanJudgeModel", "compares", "(II)Z"⟩, prog_12_method_10_code, 2, (Option.some Jvm.ClassFile.FieldType.boolean), 26, false, [])
set_option maxRecDepth 20000 in
theorem ok_Mo_compares : okMI m_Mo_compares := ⟨rfl, by decide +kernel, Or.inl ⟨rfl, lw_at 1543 rfl rfl⟩, lw_at 78 (by decide +kernel) rfl, (fun h => by cases h), by decide⟩
def m_Mo_lastsRight : MI := (⟨"PlanJudgeModel", "lastsRight", "(I)Z"⟩, prog_12_method_52_code, 2, (Option.some Jvm.ClassFile.FieldType.boolean), 26, false, [])
set_option maxRecDepth 20000 in
theorem ok_Mo_lastsRight : okMI m_Mo_lastsRight := ⟨rfl, by decide +kernel, Or.inl ⟨rfl, lw_at 1547 rfl rfl⟩, lw_at 78 (by decide +kernel) rfl, (fun h => by cases h), by decide⟩
def m_Mo_duration : MI := (⟨"PlanJudgeModel", "duration", "(II)Z"⟩, prog_12_method_44_code, 4, (Option.some Jvm.ClassFile.FieldType.boolean), 26, false, [])
set_option maxRecDepth 20000 in
theorem ok_Mo_duration : okMI m_Mo_duration := ⟨rfl, by decide +kernel, Or.inl ⟨rfl, lw_at 1551 rfl rfl⟩, lw_at 78 (by decide +kernel) rfl, (fun h => by cases h), by decide⟩
def m_Mo_keepState : MI := (⟨"PlanJudgeModel", "keepState", "()V"⟩, prog_12_method_39_code, 2, (Option.none : Option Jvm.ClassFile.FieldType), 26, false, [])
set_option maxRecDepth 20000 in
theorem ok_Mo_keepState : okMI m_Mo_keepState := ⟨rfl, by decide +kernel, Or.inl ⟨rfl, lw_at 1555 rfl rfl⟩, lw_at 78 (by decide +kernel) rfl, (fun h => by cases h), by decide⟩
def m_Mo_allChanged : MI := (⟨"PlanJudgeModel", "allChanged", "(I)Z"⟩, prog_12_method_46_code, 4, (Option.some Jvm.ClassFile.FieldType.boolean), 26, false, [])
set_option maxRecDepth 20000 in
theorem ok_Mo_allChanged : okMI m_Mo_allChanged := ⟨rfl, by decide +kernel, Or.inl ⟨rfl, lw_at 1559 rfl rfl⟩, lw_at 78 (by decide +kernel) rfl, (fun h => by cases h), by decide⟩
def m_Mo_changed : MI := (⟨"PlanJudgeModel", "changed", "(I)V"⟩, prog_12_method_45_code, 8, (Option.none : Option Jvm.ClassFile.FieldType), 26, false, [])
set_option maxRecDepth 20000 in
theorem ok_Mo_changed : okMI m_Mo_changed := ⟨rfl, by decide +kernel, Or.inl ⟨rfl, lw_at 1563 rfl rfl⟩, lw_at 78 (by decide +kernel) rfl, (fun h => by cases h), by decide⟩
def m_Mo_oldState : MI := (⟨"PlanJudgeModel", "oldState", "()V"⟩, prog_12_method_40_code, 2, (Option.none : Option Jvm.ClassFile.FieldType), 26, false, [])
set_option maxRecDepth 20000 in
theorem ok_Mo_oldState : okMI m_Mo_oldState := ⟨rfl, by decide +kernel, Or.inl ⟨rfl, lw_at 1568 rfl rfl⟩, lw_at 78 (by decide +kernel) rfl, (fun h => by cases h), by decide⟩
def m_Mo_isGoal : MI := (⟨"PlanJudgeModel", "isGoal", "()Z"⟩, prog_12_method_43_code, 3, (Option.some Jvm.ClassFile.FieldType.boolean), 26, false, [])
set_option maxRecDepth 20000 in
theorem ok_Mo_isGoal : okMI m_Mo_isGoal := ⟨rfl, by decide +kernel, Or.inl ⟨rfl, lw_at 1572 rfl rfl⟩, lw_at 78 (by decide +kernel) rfl, (fun h => by cases h), by decide⟩
def m_Mo_tell : MI := (⟨"PlanJudgeModel", "tell", "(I)V"⟩, prog_12_method_55_code, 3, (Option.none : Option Jvm.ClassFile.FieldType), 26, false, [])
set_option maxRecDepth 20000 in
theorem ok_Mo_tell : okMI m_Mo_tell := ⟨rfl, by decide +kernel, Or.inl ⟨rfl, lw_at 1576 rfl rfl⟩, lw_at 78 (by decide +kernel) rfl, (fun h => by cases h), by decide⟩
def m_Mo_push : MI := (⟨"PlanJudgeModel", "push", "(I)V"⟩, prog_12_method_58_code, 2, (Option.none : Option Jvm.ClassFile.FieldType), 26, false, [])
set_option maxRecDepth 20000 in
theorem ok_Mo_push : okMI m_Mo_push := ⟨rfl, by decide +kernel, Or.inl ⟨rfl, lw_at 1580 rfl rfl⟩, lw_at 78 (by decide +kernel) rfl, (fun h => by cases h), by decide⟩
def m_Mo_isInRow : MI := (⟨"PlanJudgeModel", "isInRow", "(I)Z"⟩, prog_12_method_57_code, 3, (Option.some Jvm.ClassFile.FieldType.boolean), 26, false, [])
set_option maxRecDepth 20000 in
theorem ok_Mo_isInRow : okMI m_Mo_isInRow := ⟨rfl, by decide +kernel, Or.inl ⟨rfl, lw_at 1584 rfl rfl⟩, lw_at 78 (by decide +kernel) rfl, (fun h => by cases h), by decide⟩
def m_Mo_pop : MI := (⟨"PlanJudgeModel", "pop", "()I"⟩, prog_12_method_59_code, 1, (Option.some Jvm.ClassFile.FieldType.int), 26, false, [])
set_option maxRecDepth 20000 in
theorem ok_Mo_pop : okMI m_Mo_pop := ⟨rfl, by decide +kernel, Or.inl ⟨rfl, lw_at 1588 rfl rfl⟩, lw_at 78 (by decide +kernel) rfl, (fun h => by cases h), by decide⟩
def m_Mo_arrange : MI := (⟨"PlanJudgeModel", "arrange", "()I"⟩, prog_12_method_69_code, 2, (Option.some Jvm.ClassFile.FieldType.int), 26, false, [])
set_option maxRecDepth 20000 in
theorem ok_Mo_arrange : okMI m_Mo_arrange := ⟨rfl, by decide +kernel, Or.inl ⟨rfl, lw_at 1592 rfl rfl⟩, lw_at 78 (by decide +kernel) rfl, (fun h => by cases h), by decide⟩
def m_Mo_arranged : MI := (⟨"PlanJudgeModel", "arranged", "()I"⟩, prog_12_method_67_code, 4, (Option.some Jvm.ClassFile.FieldType.int), 26, false, [])
set_option maxRecDepth 20000 in
theorem ok_Mo_arranged : okMI m_Mo_arranged := ⟨rfl, by decide +kernel, Or.inl ⟨rfl, lw_at 1596 rfl rfl⟩, lw_at 78 (by decide +kernel) rfl, (fun h => by cases h), by decide⟩
def m_Mo_walk : MI := (⟨"PlanJudgeModel", "walk", "()I"⟩, prog_12_method_61_code, 3, (Option.some Jvm.ClassFile.FieldType.int), 26, false, [])
set_option maxRecDepth 20000 in
theorem ok_Mo_walk : okMI m_Mo_walk := ⟨rfl, by decide +kernel, Or.inl ⟨rfl, lw_at 1600 rfl rfl⟩, lw_at 78 (by decide +kernel) rfl, (fun h => by cases h), by decide⟩
def m_Mo_bound : MI := (⟨"PlanJudgeModel", "bound", "(I)V"⟩, prog_12_method_60_code, 3, (Option.none : Option Jvm.ClassFile.FieldType), 26, false, [])
set_option maxRecDepth 20000 in
theorem ok_Mo_bound : okMI m_Mo_bound := ⟨rfl, by decide +kernel, Or.inl ⟨rfl, lw_at 1604 rfl rfl⟩, lw_at 78 (by decide +kernel) rfl, (fun h => by cases h), by decide⟩
def m_Mo_hasUnit : MI := (⟨"PlanJudgeModel", "hasUnit", "()Z"⟩, prog_12_method_63_code, 3, (Option.some Jvm.ClassFile.FieldType.boolean), 26, false, [])
set_option maxRecDepth 20000 in
theorem ok_Mo_hasUnit : okMI m_Mo_hasUnit := ⟨rfl, by decide +kernel, Or.inl ⟨rfl, lw_at 1608 rfl rfl⟩, lw_at 78 (by decide +kernel) rfl, (fun h => by cases h), by decide⟩
def m_Mo_joins : MI := (⟨"PlanJudgeModel", "joins", "(JJ)Z"⟩, prog_12_method_62_code, 5, (Option.some Jvm.ClassFile.FieldType.boolean), 26, false, [])
set_option maxRecDepth 20000 in
theorem ok_Mo_joins : okMI m_Mo_joins := ⟨rfl, by decide +kernel, Or.inl ⟨rfl, lw_at 1612 rfl rfl⟩, lw_at 78 (by decide +kernel) rfl, (fun h => by cases h), by decide⟩
def m_Mo_liftAll : MI := (⟨"PlanJudgeModel", "liftAll", "()Z"⟩, prog_12_method_66_code, 6, (Option.some Jvm.ClassFile.FieldType.boolean), 26, false, [])
set_option maxRecDepth 20000 in
theorem ok_Mo_liftAll : okMI m_Mo_liftAll := ⟨rfl, by decide +kernel, Or.inl ⟨rfl, lw_at 1618 rfl rfl⟩, lw_at 78 (by decide +kernel) rfl, (fun h => by cases h), by decide⟩
def m_Mo_units : MI := (⟨"PlanJudgeModel", "units", "(JJ)J"⟩, prog_12_method_64_code, 5, (Option.some Jvm.ClassFile.FieldType.long), 26, false, [])
set_option maxRecDepth 20000 in
theorem ok_Mo_units : okMI m_Mo_units := ⟨rfl, by decide +kernel, Or.inl ⟨rfl, lw_at 1622 rfl rfl⟩, lw_at 78 (by decide +kernel) rfl, (fun h => by cases h), by decide⟩
def m_Mo_lift : MI := (⟨"PlanJudgeModel", "lift", "(IJ)Z"⟩, prog_12_method_65_code, 4, (Option.some Jvm.ClassFile.FieldType.boolean), 26, false, [])
set_option maxRecDepth 20000 in
theorem ok_Mo_lift : okMI m_Mo_lift := ⟨rfl, by decide +kernel, Or.inl ⟨rfl, lw_at 1626 rfl rfl⟩, lw_at 78 (by decide +kernel) rfl, (fun h => by cases h), by decide⟩
def m_Mo_takeTried : MI := (⟨"PlanJudgeModel", "takeTried", "()V"⟩, prog_12_method_68_code, 2, (Option.none : Option Jvm.ClassFile.FieldType), 26, false, [])
set_option maxRecDepth 20000 in
theorem ok_Mo_takeTried : okMI m_Mo_takeTried := ⟨rfl, by decide +kernel, Or.inl ⟨rfl, lw_at 1631 rfl rfl⟩, lw_at 78 (by decide +kernel) rfl, (fun h => by cases h), by decide⟩
def m_Mo_seek : MI := (⟨"PlanJudgeModel", "seek", "(I)I"⟩, prog_12_method_72_code, 3, (Option.some Jvm.ClassFile.FieldType.int), 26, false, [])
set_option maxRecDepth 20000 in
theorem ok_Mo_seek : okMI m_Mo_seek := ⟨rfl, by decide +kernel, Or.inl ⟨rfl, lw_at 1635 rfl rfl⟩, lw_at 78 (by decide +kernel) rfl, (fun h => by cases h), by decide⟩
def m_Mo_finds : MI := (⟨"PlanJudgeModel", "finds", "(I)Z"⟩, prog_12_method_71_code, 3, (Option.some Jvm.ClassFile.FieldType.boolean), 26, false, [])
set_option maxRecDepth 20000 in
theorem ok_Mo_finds : okMI m_Mo_finds := ⟨rfl, by decide +kernel, Or.inl ⟨rfl, lw_at 1639 rfl rfl⟩, lw_at 78 (by decide +kernel) rfl, (fun h => by cases h), by decide⟩
def m_Mo_takeEvents : MI := (⟨"PlanJudgeModel", "takeEvents", "(I)Z"⟩, prog_12_method_70_code, 6, (Option.some Jvm.ClassFile.FieldType.boolean), 26, false, [])
set_option maxRecDepth 20000 in
theorem ok_Mo_takeEvents : okMI m_Mo_takeEvents := ⟨rfl, by decide +kernel, Or.inl ⟨rfl, lw_at 1643 rfl rfl⟩, lw_at 78 (by decide +kernel) rfl, (fun h => by cases h), by decide⟩
def m_Mo_count : MI := (⟨"PlanJudgeModel", "count", "(I)I"⟩, prog_12_method_73_code, 2, (Option.some Jvm.ClassFile.FieldType.int), 26, false, [])
set_option maxRecDepth 20000 in
theorem ok_Mo_count : okMI m_Mo_count := ⟨rfl, by decide +kernel, Or.inl ⟨rfl, lw_at 1647 rfl rfl⟩, lw_at 78 (by decide +kernel) rfl, (fun h => by cases h), by decide⟩
def m_Mo_done : MI := (⟨"PlanJudgeModel", "done", "(I)I"⟩, prog_12_method_74_code, 2, (Option.some Jvm.ClassFile.FieldType.int), 26, false, [])
set_option maxRecDepth 20000 in
theorem ok_Mo_done : okMI m_Mo_done := ⟨rfl, by decide +kernel, Or.inl ⟨rfl, lw_at 1651 rfl rfl⟩, lw_at 78 (by decide +kernel) rfl, (fun h => by cases h), by decide⟩
def m_Mo_at : MI := (⟨"PlanJudgeModel", "at", "(I)I"⟩, prog_12_method_75_code, 2, (Option.some Jvm.ClassFile.FieldType.int), 26, false, [])
set_option maxRecDepth 20000 in
theorem ok_Mo_at : okMI m_Mo_at := ⟨rfl, by decide +kernel, Or.inl ⟨rfl, lw_at 1655 rfl rfl⟩, lw_at 78 (by decide +kernel) rfl, (fun h => by cases h), by decide⟩
def m_Mo_above : MI := (⟨"PlanJudgeModel", "above", "(II)J"⟩, prog_12_method_77_code, 3, (Option.some Jvm.ClassFile.FieldType.long), 26, false, [])
set_option maxRecDepth 20000 in
theorem ok_Mo_above : okMI m_Mo_above := ⟨rfl, by decide +kernel, Or.inl ⟨rfl, lw_at 1659 rfl rfl⟩, lw_at 78 (by decide +kernel) rfl, (fun h => by cases h), by decide⟩
def m_Mo_told : MI := (⟨"PlanJudgeModel", "told", "(IIZ)J"⟩, prog_12_method_76_code, 4, (Option.some Jvm.ClassFile.FieldType.long), 26, false, [])
set_option maxRecDepth 20000 in
theorem ok_Mo_told : okMI m_Mo_told := ⟨rfl, by decide +kernel, Or.inl ⟨rfl, lw_at 1663 rfl rfl⟩, lw_at 78 (by decide +kernel) rfl, (fun h => by cases h), by decide⟩
def m_Mo_below : MI := (⟨"PlanJudgeModel", "below", "(II)J"⟩, prog_12_method_78_code, 3, (Option.some Jvm.ClassFile.FieldType.long), 26, false, [])
set_option maxRecDepth 20000 in
theorem ok_Mo_below : okMI m_Mo_below := ⟨rfl, by decide +kernel, Or.inl ⟨rfl, lw_at 1667 rfl rfl⟩, lw_at 78 (by decide +kernel) rfl, (fun h => by cases h), by decide⟩
def m_Mo_holds : MI := (⟨"PlanJudgeModel", "holds", "(I)Z"⟩, prog_12_method_79_code, 2, (Option.some Jvm.ClassFile.FieldType.boolean), 26, false, [])
set_option maxRecDepth 20000 in
theorem ok_Mo_holds : okMI m_Mo_holds := ⟨rfl, by decide +kernel, Or.inl ⟨rfl, lw_at 1671 rfl rfl⟩, lw_at 78 (by decide +kernel) rfl, (fun h => by cases h), by decide⟩
def m_Law_amount : MI := (⟨"PlanJudgeLaw", "amount", "(LPlanJudge;II)I"⟩, method_3_code, 4, (Option.some Jvm.ClassFile.FieldType.int), 0, false, [((0 : Nat), (6 : Nat), (9 : Nat), (13 : Nat))])
set_option maxRecDepth 20000 in
theorem ok_Law_amount : okMI m_Law_amount := ⟨rfl, by decide +kernel, Or.inr ⟨(fun h => by cases h), lw_at 573 rfl rfl⟩, lw_at 65 (by decide +kernel) rfl, (fun h => by cases h), by decide⟩
def m_Law_moment : MI := (⟨"PlanJudgeLaw", "moment", "(LPlanJudge;II)I"⟩, method_4_code, 4, (Option.some Jvm.ClassFile.FieldType.int), 0, false, [((0 : Nat), (6 : Nat), (9 : Nat), (13 : Nat))])
set_option maxRecDepth 20000 in
theorem ok_Law_moment : okMI m_Law_moment := ⟨rfl, by decide +kernel, Or.inr ⟨(fun h => by cases h), lw_at 654 rfl rfl⟩, lw_at 65 (by decide +kernel) rfl, (fun h => by cases h), by decide⟩
def m_Law_epsilon : MI := (⟨"PlanJudgeLaw", "epsilon", "(LPlanJudge;)I"⟩, method_5_code, 2, (Option.some Jvm.ClassFile.FieldType.int), 0, false, [((0 : Nat), (4 : Nat), (7 : Nat), (13 : Nat))])
set_option maxRecDepth 20000 in
theorem ok_Law_epsilon : okMI m_Law_epsilon := ⟨rfl, by decide +kernel, Or.inr ⟨(fun h => by cases h), lw_at 661 rfl rfl⟩, lw_at 65 (by decide +kernel) rfl, (fun h => by cases h), by decide⟩
def m_Law_fact : MI := (⟨"PlanJudgeLaw", "fact", "(LPlanJudge;IZ)I"⟩, method_6_code, 4, (Option.some Jvm.ClassFile.FieldType.int), 0, false, [((0 : Nat), (6 : Nat), (9 : Nat), (25 : Nat))])
set_option maxRecDepth 20000 in
theorem ok_Law_fact : okMI m_Law_fact := ⟨rfl, by decide +kernel, Or.inr ⟨(fun h => by cases h), lw_at 669 rfl rfl⟩, lw_at 65 (by decide +kernel) rfl, (fun h => by cases h), by decide⟩
def m_Law_number : MI := (⟨"PlanJudgeLaw", "number", "(LPlanJudge;I)I"⟩, method_7_code, 3, (Option.some Jvm.ClassFile.FieldType.int), 0, false, [((0 : Nat), (5 : Nat), (8 : Nat), (25 : Nat))])
set_option maxRecDepth 20000 in
theorem ok_Law_number : okMI m_Law_number := ⟨rfl, by decide +kernel, Or.inr ⟨(fun h => by cases h), lw_at 698 rfl rfl⟩, lw_at 65 (by decide +kernel) rfl, (fun h => by cases h), by decide⟩
def m_Law_wish : MI := (⟨"PlanJudgeLaw", "wish", "(LPlanJudge;II)I"⟩, method_8_code, 4, (Option.some Jvm.ClassFile.FieldType.int), 0, false, [((0 : Nat), (6 : Nat), (9 : Nat), (25 : Nat)), ((0 : Nat), (6 : Nat), (12 : Nat), (13 : Nat))])
set_option maxRecDepth 20000 in
theorem ok_Law_wish : okMI m_Law_wish := ⟨rfl, by decide +kernel, Or.inr ⟨(fun h => by cases h), lw_at 705 rfl rfl⟩, lw_at 65 (by decide +kernel) rfl, (fun h => by cases h), by decide⟩
def m_Law_want : MI := (⟨"PlanJudgeLaw", "want", "(LPlanJudge;II)I"⟩, method_9_code, 4, (Option.some Jvm.ClassFile.FieldType.int), 0, false, [((0 : Nat), (6 : Nat), (9 : Nat), (25 : Nat)), ((0 : Nat), (6 : Nat), (12 : Nat), (13 : Nat))])
set_option maxRecDepth 20000 in
theorem ok_Law_want : okMI m_Law_want := ⟨rfl, by decide +kernel, Or.inr ⟨(fun h => by cases h), lw_at 717 rfl rfl⟩, lw_at 65 (by decide +kernel) rfl, (fun h => by cases h), by decide⟩
def m_Law_action : MI := (⟨"PlanJudgeLaw", "action", "(LPlanJudge;[J)I"⟩, method_10_code, 3, (Option.some Jvm.ClassFile.FieldType.int), 0, false, [((0 : Nat), (8 : Nat), (11 : Nat), (41 : Nat))])
set_option maxRecDepth 20000 in
theorem ok_Law_action : okMI m_Law_action := ⟨rfl, by decide +kernel, Or.inr ⟨(fun h => by cases h), lw_at 724 rfl rfl⟩, lw_at 65 (by decide +kernel) rfl, (fun h => by cases h), by decide⟩
def m_Law_need : MI := (⟨"PlanJudgeLaw", "need", "(LPlanJudge;IIIZ)I"⟩, method_11_code, 6, (Option.some Jvm.ClassFile.FieldType.int), 0, false, [((0 : Nat), (9 : Nat), (12 : Nat), (25 : Nat)), ((0 : Nat), (9 : Nat), (16 : Nat), (13 : Nat)), ((0 : Nat), (9 : Nat), (20 : Nat), (41 : Nat))])
set_option maxRecDepth 20000 in
theorem ok_Law_need : okMI m_Law_need := ⟨rfl, by decide +kernel, Or.inr ⟨(fun h => by cases h), lw_at 895 rfl rfl⟩, lw_at 65 (by decide +kernel) rfl, (fun h => by cases h), by decide⟩
def m_Law_compare : MI := (⟨"PlanJudgeLaw", "compare", "(LPlanJudge;IIII)I"⟩, method_12_code, 6, (Option.some Jvm.ClassFile.FieldType.int), 0, false, [((0 : Nat), (9 : Nat), (12 : Nat), (25 : Nat)), ((0 : Nat), (9 : Nat), (16 : Nat), (13 : Nat)), ((0 : Nat), (9 : Nat), (20 : Nat), (41 : Nat))])
set_option maxRecDepth 20000 in
theorem ok_Law_compare : okMI m_Law_compare := ⟨rfl, by decide +kernel, Or.inr ⟨(fun h => by cases h), lw_at 908 rfl rfl⟩, lw_at 65 (by decide +kernel) rfl, (fun h => by cases h), by decide⟩
def m_Law_make : MI := (⟨"PlanJudgeLaw", "make", "(LPlanJudge;IIIZ)I"⟩, method_13_code, 6, (Option.some Jvm.ClassFile.FieldType.int), 0, false, [((0 : Nat), (9 : Nat), (12 : Nat), (25 : Nat)), ((0 : Nat), (9 : Nat), (16 : Nat), (13 : Nat)), ((0 : Nat), (9 : Nat), (20 : Nat), (41 : Nat))])
set_option maxRecDepth 20000 in
theorem ok_Law_make : okMI m_Law_make := ⟨rfl, by decide +kernel, Or.inr ⟨(fun h => by cases h), lw_at 927 rfl rfl⟩, lw_at 65 (by decide +kernel) rfl, (fun h => by cases h), by decide⟩
def m_Law_change : MI := (⟨"PlanJudgeLaw", "change", "(LPlanJudge;IIII)I"⟩, method_14_code, 6, (Option.some Jvm.ClassFile.FieldType.int), 0, false, [((0 : Nat), (9 : Nat), (12 : Nat), (25 : Nat)), ((0 : Nat), (9 : Nat), (16 : Nat), (13 : Nat)), ((0 : Nat), (9 : Nat), (20 : Nat), (41 : Nat))])
set_option maxRecDepth 20000 in
theorem ok_Law_change : okMI m_Law_change := ⟨rfl, by decide +kernel, Or.inr ⟨(fun h => by cases h), lw_at 944 rfl rfl⟩, lw_at 65 (by decide +kernel) rfl, (fun h => by cases h), by decide⟩
def m_Law_last : MI := (⟨"PlanJudgeLaw", "last", "(LPlanJudge;III)I"⟩, method_15_code, 5, (Option.some Jvm.ClassFile.FieldType.int), 0, false, [((0 : Nat), (7 : Nat), (10 : Nat), (25 : Nat)), ((0 : Nat), (7 : Nat), (14 : Nat), (13 : Nat))])
set_option maxRecDepth 20000 in
theorem ok_Law_last : okMI m_Law_last := ⟨rfl, by decide +kernel, Or.inr ⟨(fun h => by cases h), lw_at 956 rfl rfl⟩, lw_at 65 (by decide +kernel) rfl, (fun h => by cases h), by decide⟩
def m_Law_step : MI := (⟨"PlanJudgeLaw", "step", "(LPlanJudge;I[J)I"⟩, method_16_code, 4, (Option.some Jvm.ClassFile.FieldType.int), 0, false, [((0 : Nat), (9 : Nat), (12 : Nat), (25 : Nat)), ((0 : Nat), (9 : Nat), (15 : Nat), (13 : Nat)), ((0 : Nat), (9 : Nat), (18 : Nat), (41 : Nat))])
set_option maxRecDepth 20000 in
theorem ok_Law_step : okMI m_Law_step := ⟨rfl, by decide +kernel, Or.inr ⟨(fun h => by cases h), lw_at 967 rfl rfl⟩, lw_at 65 (by decide +kernel) rfl, (fun h => by cases h), by decide⟩
def m_Law_push : MI := (⟨"PlanJudgeLaw", "push", "(LPlanJudge;I)I"⟩, method_17_code, 3, (Option.some Jvm.ClassFile.FieldType.int), 0, false, [((0 : Nat), (5 : Nat), (8 : Nat), (25 : Nat)), ((0 : Nat), (5 : Nat), (11 : Nat), (41 : Nat))])
set_option maxRecDepth 20000 in
theorem ok_Law_push : okMI m_Law_push := ⟨rfl, by decide +kernel, Or.inr ⟨(fun h => by cases h), lw_at 978 rfl rfl⟩, lw_at 65 (by decide +kernel) rfl, (fun h => by cases h), by decide⟩
def m_Law_arrange : MI := (⟨"PlanJudgeLaw", "arrange", "(LPlanJudge;[J)I"⟩, method_18_code, 3, (Option.some Jvm.ClassFile.FieldType.int), 0, false, [((0 : Nat), (8 : Nat), (11 : Nat), (41 : Nat))])
set_option maxRecDepth 20000 in
theorem ok_Law_arrange : okMI m_Law_arrange := ⟨rfl, by decide +kernel, Or.inr ⟨(fun h => by cases h), lw_at 993 rfl rfl⟩, lw_at 65 (by decide +kernel) rfl, (fun h => by cases h), by decide⟩
def m_Law_seek : MI := (⟨"PlanJudgeLaw", "seek", "(LPlanJudge;I[J)I"⟩, method_19_code, 4, (Option.some Jvm.ClassFile.FieldType.int), 0, false, [((0 : Nat), (9 : Nat), (12 : Nat), (13 : Nat))])
set_option maxRecDepth 20000 in
theorem ok_Law_seek : okMI m_Law_seek := ⟨rfl, by decide +kernel, Or.inr ⟨(fun h => by cases h), lw_at 1083 rfl rfl⟩, lw_at 65 (by decide +kernel) rfl, (fun h => by cases h), by decide⟩
def m_Law_count : MI := (⟨"PlanJudgeLaw", "count", "(LPlanJudge;I[J)I"⟩, method_20_code, 4, (Option.some Jvm.ClassFile.FieldType.int), 0, false, [((0 : Nat), (9 : Nat), (12 : Nat), (25 : Nat))])
set_option maxRecDepth 20000 in
theorem ok_Law_count : okMI m_Law_count := ⟨rfl, by decide +kernel, Or.inr ⟨(fun h => by cases h), lw_at 1115 rfl rfl⟩, lw_at 65 (by decide +kernel) rfl, (fun h => by cases h), by decide⟩
def m_Law_done : MI := (⟨"PlanJudgeLaw", "done", "(LPlanJudge;I[J)I"⟩, method_21_code, 4, (Option.some Jvm.ClassFile.FieldType.int), 0, false, [((0 : Nat), (9 : Nat), (12 : Nat), (25 : Nat))])
set_option maxRecDepth 20000 in
theorem ok_Law_done : okMI m_Law_done := ⟨rfl, by decide +kernel, Or.inr ⟨(fun h => by cases h), lw_at 1122 rfl rfl⟩, lw_at 65 (by decide +kernel) rfl, (fun h => by cases h), by decide⟩
def m_Law_above : MI := (⟨"PlanJudgeLaw", "above", "(LPlanJudge;II[J)I"⟩, method_22_code, 5, (Option.some Jvm.ClassFile.FieldType.int), 0, false, [((0 : Nat), (9 : Nat), (12 : Nat), (13 : Nat)), ((0 : Nat), (9 : Nat), (16 : Nat), (25 : Nat))])
set_option maxRecDepth 20000 in
theorem ok_Law_above : okMI m_Law_above := ⟨rfl, by decide +kernel, Or.inr ⟨(fun h => by cases h), lw_at 1129 rfl rfl⟩, lw_at 65 (by decide +kernel) rfl, (fun h => by cases h), by decide⟩
def m_Law_below : MI := (⟨"PlanJudgeLaw", "below", "(LPlanJudge;II[J)I"⟩, method_23_code, 5, (Option.some Jvm.ClassFile.FieldType.int), 0, false, [((0 : Nat), (9 : Nat), (12 : Nat), (13 : Nat)), ((0 : Nat), (9 : Nat), (16 : Nat), (25 : Nat))])
set_option maxRecDepth 20000 in
theorem ok_Law_below : okMI m_Law_below := ⟨rfl, by decide +kernel, Or.inr ⟨(fun h => by cases h), lw_at 1144 rfl rfl⟩, lw_at 65 (by decide +kernel) rfl, (fun h => by cases h), by decide⟩
def m_Law_holds : MI := (⟨"PlanJudgeLaw", "holds", "(LPlanJudge;I[J)I"⟩, method_24_code, 4, (Option.some Jvm.ClassFile.FieldType.int), 0, false, [((0 : Nat), (16 : Nat), (19 : Nat), (25 : Nat))])
set_option maxRecDepth 20000 in
theorem ok_Law_holds : okMI m_Law_holds := ⟨rfl, by decide +kernel, Or.inr ⟨(fun h => by cases h), lw_at 1151 rfl rfl⟩, lw_at 65 (by decide +kernel) rfl, (fun h => by cases h), by decide⟩
