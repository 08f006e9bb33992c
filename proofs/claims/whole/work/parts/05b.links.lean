def okR (x : (Nat × Nat) × Nat) : Prop := ∃ (own C : String) (T : u_T) (N : Nat), homes[x.1.1]? = some own ∧ CLs[x.2]? = some (C, T, N) ∧ Cond.classLink own x.1.2 C ∈ lw_t2
theorem ck_0_8 : okR ((0, 8), 0) := ⟨"PlanJudgeLaw", "PlanJudge", T_0, 6, rfl, rfl, lw_at 92 (by decide +kernel) rfl⟩
theorem ck_1_7 : okR ((1, 7), 3) := ⟨"PlanJudge", "PlanJudge$Fractions", T_3, 2, rfl, rfl, lw_at 100 (by decide +kernel) rfl⟩
theorem ck_1_18 : okR ((1, 18), 7) := ⟨"PlanJudge", "PlanJudge$Task", T_7, 7, rfl, rfl, lw_at 123 (by decide +kernel) rfl⟩
theorem ck_5_9 : okR ((5, 9), 11) := ⟨"PlanJudge$Task", "java/util/ArrayList", T_11, 3, rfl, rfl, lw_at 129 (by decide +kernel) rfl⟩
theorem ck_5_18 : okR ((5, 18), 6) := ⟨"PlanJudge$Task", "PlanJudge$State", T_6, 2, rfl, rfl, lw_at 155 (by decide +kernel) rfl⟩
theorem ck_9_9 : okR ((9, 9), 3) := ⟨"PlanJudge$State", "PlanJudge$Fractions", T_3, 2, rfl, rfl, lw_at 161 (by decide +kernel) rfl⟩
theorem ck_5_25 : okR ((5, 25), 3) := ⟨"PlanJudge$Task", "PlanJudge$Fractions", T_3, 2, rfl, rfl, lw_at 175 (by decide +kernel) rfl⟩
theorem ck_1_25 : okR ((1, 25), 5) := ⟨"PlanJudge", "PlanJudge$Plan", T_5, 7, rfl, rfl, lw_at 219 (by decide +kernel) rfl⟩
theorem ck_10_15 : okR ((10, 15), 3) := ⟨"PlanJudge$Plan", "PlanJudge$Fractions", T_3, 2, rfl, rfl, lw_at 225 (by decide +kernel) rfl⟩
theorem ck_1_32 : okR ((1, 32), 9) := ⟨"PlanJudge", "PlanJudge$Verdict", T_9, 4, rfl, rfl, lw_at 264 (by decide +kernel) rfl⟩
theorem ck_11_15 : okR ((11, 15), 6) := ⟨"PlanJudge$Verdict", "PlanJudge$State", T_6, 2, rfl, rfl, lw_at 270 (by decide +kernel) rfl⟩
theorem ck_1_39 : okR ((1, 39), 4) := ⟨"PlanJudge", "PlanJudge$Judge", T_4, 7, rfl, rfl, lw_at 289 (by decide +kernel) rfl⟩
theorem ck_12_9 : okR ((12, 9), 3) := ⟨"PlanJudge$Judge", "PlanJudge$Fractions", T_3, 2, rfl, rfl, lw_at 295 (by decide +kernel) rfl⟩
theorem ck_12_27 : okR ((12, 27), 6) := ⟨"PlanJudge$Judge", "PlanJudge$State", T_6, 2, rfl, rfl, lw_at 297 (by decide +kernel) rfl⟩
theorem ck_1_46 : okR ((1, 46), 2) := ⟨"PlanJudge", "PlanJudge$Arranger", T_2, 17, rfl, rfl, lw_at 323 (by decide +kernel) rfl⟩
theorem ck_13_9 : okR ((13, 9), 6) := ⟨"PlanJudge$Arranger", "PlanJudge$State", T_6, 2, rfl, rfl, lw_at 329 (by decide +kernel) rfl⟩
theorem ck_13_34 : okR ((13, 34), 3) := ⟨"PlanJudge$Arranger", "PlanJudge$Fractions", T_3, 2, rfl, rfl, lw_at 331 (by decide +kernel) rfl⟩
theorem ck_12_121 : okR ((12, 121), 1) := ⟨"PlanJudge$Judge", "PlanJudge$Action", T_1, 13, rfl, rfl, lw_at 489 (by decide +kernel) rfl⟩
theorem ck_0_13 : okR ((0, 13), 12) := ⟨"PlanJudgeLaw", "java/lang/IllegalArgumentException", T_12, 0, rfl, rfl, lw_at 574 (by decide +kernel) rfl⟩
theorem ck_1_61 : okR ((1, 61), 12) := ⟨"PlanJudge", "java/lang/IllegalArgumentException", T_12, 0, rfl, rfl, lw_at 588 (by decide +kernel) rfl⟩
theorem ck_0_25 : okR ((0, 25), 13) := ⟨"PlanJudgeLaw", "java/lang/IndexOutOfBoundsException", T_13, 0, rfl, rfl, lw_at 670 (by decide +kernel) rfl⟩
theorem ck_1_235 : okR ((1, 235), 13) := ⟨"PlanJudge", "java/lang/IndexOutOfBoundsException", T_13, 0, rfl, rfl, lw_at 678 (by decide +kernel) rfl⟩
theorem ck_0_41 : okR ((0, 41), 14) := ⟨"PlanJudgeLaw", "java/lang/IllegalStateException", T_14, 0, rfl, rfl, lw_at 725 (by decide +kernel) rfl⟩
theorem ck_1_196 : okR ((1, 196), 14) := ⟨"PlanJudge", "java/lang/IllegalStateException", T_14, 0, rfl, rfl, lw_at 737 (by decide +kernel) rfl⟩
theorem ck_1_118 : okR ((1, 118), 1) := ⟨"PlanJudge", "PlanJudge$Action", T_1, 13, rfl, rfl, lw_at 752 (by decide +kernel) rfl⟩
theorem ck_17_18 : okR ((17, 18), 8) := ⟨"PlanJudge$Action", "PlanJudge$Terms", T_8, 5, rfl, rfl, lw_at 758 (by decide +kernel) rfl⟩
theorem ck_24_21 : okR ((24, 21), 3) := ⟨"PlanJudge$Terms", "PlanJudge$Fractions", T_3, 2, rfl, rfl, lw_at 764 (by decide +kernel) rfl⟩
theorem ck_17_45 : okR ((17, 45), 3) := ⟨"PlanJudge$Action", "PlanJudge$Fractions", T_3, 2, rfl, rfl, lw_at 787 (by decide +kernel) rfl⟩
theorem ck_13_110 : okR ((13, 110), 1) := ⟨"PlanJudge$Arranger", "PlanJudge$Action", T_1, 13, rfl, rfl, lw_at 1013 (by decide +kernel) rfl⟩
theorem ck_0_92 : okR ((0, 92), 10) := ⟨"PlanJudgeLaw", "PlanJudgeModel", T_10, 68, rfl, rfl, lw_at 1156 (by decide +kernel) rfl⟩
def rCs_0 : List ((Nat × Nat) × Nat) := [((0, 8), 0), ((1, 7), 3), ((1, 18), 7), ((5, 9), 11), ((5, 18), 6), ((9, 9), 3), ((5, 25), 3), ((1, 25), 5), ((10, 15), 3), ((1, 32), 9), ((11, 15), 6), ((1, 39), 4), ((12, 9), 3), ((12, 27), 6), ((1, 46), 2), ((13, 9), 6), ((13, 34), 3), ((12, 121), 1), ((0, 13), 12), ((1, 61), 12), ((0, 25), 13), ((1, 235), 13), ((0, 41), 14), ((1, 196), 14), ((1, 118), 1), ((17, 18), 8), ((24, 21), 3), ((17, 45), 3), ((13, 110), 1), ((0, 92), 10)]
theorem ok_rCs_0 : ∀ x ∈ rCs_0, okR x := List.forall_mem_cons.mpr ⟨ck_0_8, List.forall_mem_cons.mpr ⟨ck_1_7, List.forall_mem_cons.mpr ⟨ck_1_18, List.forall_mem_cons.mpr ⟨ck_5_9, List.forall_mem_cons.mpr ⟨ck_5_18, List.forall_mem_cons.mpr ⟨ck_9_9, List.forall_mem_cons.mpr ⟨ck_5_25, List.forall_mem_cons.mpr ⟨ck_1_25, List.forall_mem_cons.mpr ⟨ck_10_15, List.forall_mem_cons.mpr ⟨ck_1_32, List.forall_mem_cons.mpr ⟨ck_11_15, List.forall_mem_cons.mpr ⟨ck_1_39, List.forall_mem_cons.mpr ⟨ck_12_9, List.forall_mem_cons.mpr ⟨ck_12_27, List.forall_mem_cons.mpr ⟨ck_1_46, List.forall_mem_cons.mpr ⟨ck_13_9, List.forall_mem_cons.mpr ⟨ck_13_34, List.forall_mem_cons.mpr ⟨ck_12_121, List.forall_mem_cons.mpr ⟨ck_0_13, List.forall_mem_cons.mpr ⟨ck_1_61, List.forall_mem_cons.mpr ⟨ck_0_25, List.forall_mem_cons.mpr ⟨ck_1_235, List.forall_mem_cons.mpr ⟨ck_0_41, List.forall_mem_cons.mpr ⟨ck_1_196, List.forall_mem_cons.mpr ⟨ck_1_118, List.forall_mem_cons.mpr ⟨ck_17_18, List.forall_mem_cons.mpr ⟨ck_24_21, List.forall_mem_cons.mpr ⟨ck_17_45, List.forall_mem_cons.mpr ⟨ck_13_110, List.forall_mem_cons.mpr ⟨ck_0_92, fun _ h => absurd h List.not_mem_nil⟩⟩⟩⟩⟩⟩⟩⟩⟩⟩⟩⟩⟩⟩⟩⟩⟩⟩⟩⟩⟩⟩⟩⟩⟩⟩⟩⟩⟩⟩
def rCs : List ((Nat × Nat) × Nat) := rCs_0
theorem ok_rCs : ∀ x ∈ rCs, okR x := ok_rCs_0
def okK (x : (Nat × Nat) × Int32) : Prop := ∃ own : String, homes[x.1.1]? = some own ∧ Cond.constant own x.1.2 x.2 ∈ lw_t2
theorem kk_1_255 : okK ((1, 255), (-100000 : Int32)) := ⟨"PlanJudge", rfl, lw_at 583 (by decide +kernel) rfl⟩
theorem kk_1_256 : okK ((1, 256), (100000 : Int32)) := ⟨"PlanJudge", rfl, lw_at 584 (by decide +kernel) rfl⟩
theorem kk_25_200 : okK ((25, 200), (2147483639 : Int32)) := ⟨"jdk/internal/util/ArraysSupport", rfl, lw_at 855 (by decide +kernel) rfl⟩
theorem kk_26_198 : okK ((26, 198), (-100000 : Int32)) := ⟨"PlanJudgeModel", rfl, lw_at 1379 (by decide +kernel) rfl⟩
theorem kk_26_199 : okK ((26, 199), (100000 : Int32)) := ⟨"PlanJudgeModel", rfl, lw_at 1380 (by decide +kernel) rfl⟩
def rKs_0 : List ((Nat × Nat) × Int32) := [((1, 255), (-100000 : Int32)), ((1, 256), (100000 : Int32)), ((25, 200), (2147483639 : Int32)), ((26, 198), (-100000 : Int32)), ((26, 199), (100000 : Int32))]
theorem ok_rKs_0 : ∀ x ∈ rKs_0, okK x := List.forall_mem_cons.mpr ⟨kk_1_255, List.forall_mem_cons.mpr ⟨kk_1_256, List.forall_mem_cons.mpr ⟨kk_25_200, List.forall_mem_cons.mpr ⟨kk_26_198, List.forall_mem_cons.mpr ⟨kk_26_199, fun _ h => absurd h List.not_mem_nil⟩⟩⟩⟩⟩
def rKs : List ((Nat × Nat) × Int32) := rKs_0
theorem ok_rKs : ∀ x ∈ rKs, okK x := ok_rKs_0
def okJ (x : (Nat × Nat) × Int64) : Prop := ∃ own : String, homes[x.1.1]? = some own ∧ Cond.constantLong own x.1.2 x.2 ∈ lw_t2
theorem jk_5_41 : okJ ((5, 41), (1000 : Int64)) := ⟨"PlanJudge$Task", rfl, lw_at 177 (by decide +kernel) rfl⟩
theorem jk_3_38 : okJ ((3, 38), (1000000000 : Int64)) := ⟨"PlanJudge$Fractions", rfl, lw_at 542 (by decide +kernel) rfl⟩
theorem jk_3_40 : okJ ((3, 40), (-1000000000 : Int64)) := ⟨"PlanJudge$Fractions", rfl, lw_at 543 (by decide +kernel) rfl⟩
theorem jk_13_201 : okJ ((13, 201), (100000 : Int64)) := ⟨"PlanJudge$Arranger", rfl, lw_at 1046 (by decide +kernel) rfl⟩
theorem jk_13_203 : okJ ((13, 203), (10000 : Int64)) := ⟨"PlanJudge$Arranger", rfl, lw_at 1047 (by decide +kernel) rfl⟩
theorem jk_26_19 : okJ ((26, 19), (1000 : Int64)) := ⟨"PlanJudgeModel", rfl, lw_at 1162 (by decide +kernel) rfl⟩
theorem jk_26_278 : okJ ((26, 278), (1000000000 : Int64)) := ⟨"PlanJudgeModel", rfl, lw_at 1564 (by decide +kernel) rfl⟩
theorem jk_26_356 : okJ ((26, 356), (10000 : Int64)) := ⟨"PlanJudgeModel", rfl, lw_at 1613 (by decide +kernel) rfl⟩
theorem jk_26_361 : okJ ((26, 361), (100000 : Int64)) := ⟨"PlanJudgeModel", rfl, lw_at 1614 (by decide +kernel) rfl⟩
theorem jk_26_374 : okJ ((26, 374), (-1 : Int64)) := ⟨"PlanJudgeModel", rfl, lw_at 1627 (by decide +kernel) rfl⟩
def rJs_0 : List ((Nat × Nat) × Int64) := [((5, 41), (1000 : Int64)), ((3, 38), (1000000000 : Int64)), ((3, 40), (-1000000000 : Int64)), ((13, 201), (100000 : Int64)), ((13, 203), (10000 : Int64)), ((26, 19), (1000 : Int64)), ((26, 278), (1000000000 : Int64)), ((26, 356), (10000 : Int64)), ((26, 361), (100000 : Int64)), ((26, 374), (-1 : Int64))]
theorem ok_rJs_0 : ∀ x ∈ rJs_0, okJ x := List.forall_mem_cons.mpr ⟨jk_5_41, List.forall_mem_cons.mpr ⟨jk_3_38, List.forall_mem_cons.mpr ⟨jk_3_40, List.forall_mem_cons.mpr ⟨jk_13_201, List.forall_mem_cons.mpr ⟨jk_13_203, List.forall_mem_cons.mpr ⟨jk_26_19, List.forall_mem_cons.mpr ⟨jk_26_278, List.forall_mem_cons.mpr ⟨jk_26_356, List.forall_mem_cons.mpr ⟨jk_26_361, List.forall_mem_cons.mpr ⟨jk_26_374, fun _ h => absurd h List.not_mem_nil⟩⟩⟩⟩⟩⟩⟩⟩⟩⟩
def rJs : List ((Nat × Nat) × Int64) := rJs_0
theorem ok_rJs : ∀ x ∈ rJs, okJ x := ok_rJs_0
def okX (x : (Nat × Nat) × Nat) : Prop := x.2 = 0 ∧ ∃ own : String, homes[x.1.1]? = some own ∧ Cond.methodLink own x.1.2 Lib.objectInit ∈ lw_t2
theorem xk_1_1 : okX ((1, 1), 0) := ⟨rfl, "PlanJudge", rfl, lw_at 97 (by decide +kernel) rfl⟩
theorem xk_3_3 : okX ((3, 3), 0) := ⟨rfl, "PlanJudge$Fractions", rfl, lw_at 105 (by decide +kernel) rfl⟩
theorem xk_5_3 : okX ((5, 3), 0) := ⟨rfl, "PlanJudge$Task", rfl, lw_at 128 (by decide +kernel) rfl⟩
theorem xk_8_1 : okX ((8, 1), 0) := ⟨rfl, "java/util/AbstractCollection", rfl, lw_at 140 (by decide +kernel) rfl⟩
theorem xk_9_3 : okX ((9, 3), 0) := ⟨rfl, "PlanJudge$State", rfl, lw_at 160 (by decide +kernel) rfl⟩
theorem xk_10_3 : okX ((10, 3), 0) := ⟨rfl, "PlanJudge$Plan", rfl, lw_at 224 (by decide +kernel) rfl⟩
theorem xk_11_3 : okX ((11, 3), 0) := ⟨rfl, "PlanJudge$Verdict", rfl, lw_at 269 (by decide +kernel) rfl⟩
theorem xk_12_3 : okX ((12, 3), 0) := ⟨rfl, "PlanJudge$Judge", rfl, lw_at 294 (by decide +kernel) rfl⟩
theorem xk_13_3 : okX ((13, 3), 0) := ⟨rfl, "PlanJudge$Arranger", rfl, lw_at 328 (by decide +kernel) rfl⟩
theorem xk_17_3 : okX ((17, 3), 0) := ⟨rfl, "PlanJudge$Action", rfl, lw_at 757 (by decide +kernel) rfl⟩
theorem xk_24_3 : okX ((24, 3), 0) := ⟨rfl, "PlanJudge$Terms", rfl, lw_at 763 (by decide +kernel) rfl⟩
theorem xk_26_1 : okX ((26, 1), 0) := ⟨rfl, "PlanJudgeModel", rfl, lw_at 1161 (by decide +kernel) rfl⟩
def rXs_0 : List ((Nat × Nat) × Nat) := [((1, 1), 0), ((3, 3), 0), ((5, 3), 0), ((8, 1), 0), ((9, 3), 0), ((10, 3), 0), ((11, 3), 0), ((12, 3), 0), ((13, 3), 0), ((17, 3), 0), ((24, 3), 0), ((26, 1), 0)]
theorem ok_rXs_0 : ∀ x ∈ rXs_0, okX x := List.forall_mem_cons.mpr ⟨xk_1_1, List.forall_mem_cons.mpr ⟨xk_3_3, List.forall_mem_cons.mpr ⟨xk_5_3, List.forall_mem_cons.mpr ⟨xk_8_1, List.forall_mem_cons.mpr ⟨xk_9_3, List.forall_mem_cons.mpr ⟨xk_10_3, List.forall_mem_cons.mpr ⟨xk_11_3, List.forall_mem_cons.mpr ⟨xk_12_3, List.forall_mem_cons.mpr ⟨xk_13_3, List.forall_mem_cons.mpr ⟨xk_17_3, List.forall_mem_cons.mpr ⟨xk_24_3, List.forall_mem_cons.mpr ⟨xk_26_1, fun _ h => absurd h List.not_mem_nil⟩⟩⟩⟩⟩⟩⟩⟩⟩⟩⟩⟩
def rXs : List ((Nat × Nat) × Nat) := rXs_0
theorem ok_rXs : ∀ x ∈ rXs, okX x := ok_rXs_0
def okE (x : (Nat × Nat) × Nat) : Prop := ∃ (own C : String) (T : u_T) (N : Nat), homes[x.1.1]? = some own ∧ CLs[x.2]? = some (C, T, N) ∧ 12 ≤ x.2 ∧ Cond.methodLink own x.1.2 ⟨C, "<init>", "()V"⟩ ∈ lw_t2
theorem ek_1_63 : okE ((1, 63), 12) := ⟨"PlanJudge", "java/lang/IllegalArgumentException", T_12, 0, rfl, rfl, by decide, lw_at 629 (by decide +kernel) rfl⟩
theorem ek_1_237 : okE ((1, 237), 13) := ⟨"PlanJudge", "java/lang/IndexOutOfBoundsException", T_13, 0, rfl, rfl, by decide, lw_at 687 (by decide +kernel) rfl⟩
theorem ek_1_198 : okE ((1, 198), 14) := ⟨"PlanJudge", "java/lang/IllegalStateException", T_14, 0, rfl, rfl, by decide, lw_at 746 (by decide +kernel) rfl⟩
def rEs_0 : List ((Nat × Nat) × Nat) := [((1, 63), 12), ((1, 237), 13), ((1, 198), 14)]
theorem ok_rEs_0 : ∀ x ∈ rEs_0, okE x := List.forall_mem_cons.mpr ⟨ek_1_63, List.forall_mem_cons.mpr ⟨ek_1_237, List.forall_mem_cons.mpr ⟨ek_1_198, fun _ h => absurd h List.not_mem_nil⟩⟩⟩
def rEs : List ((Nat × Nat) × Nat) := rEs_0
theorem ok_rEs : ∀ x ∈ rEs, okE x := ok_rEs_0
def okA (x : (Nat × Nat) × String) : Prop := ∃ own : String, homes[x.1.1]? = some own ∧ Cond.classLink own x.1.2 x.2 ∈ lw_t2 ∧ Cond.arrayOver (.object x.2) ∈ lw_t2
theorem ak_5_18 : okA ((5, 18), "PlanJudge$State") := ⟨"PlanJudge$Task", rfl, lw_at 155 (by decide +kernel) rfl, lw_at 330 (by decide +kernel) rfl⟩
theorem ak_11_15 : okA ((11, 15), "PlanJudge$State") := ⟨"PlanJudge$Verdict", rfl, lw_at 270 (by decide +kernel) rfl, lw_at 330 (by decide +kernel) rfl⟩
theorem ak_12_27 : okA ((12, 27), "PlanJudge$State") := ⟨"PlanJudge$Judge", rfl, lw_at 297 (by decide +kernel) rfl, lw_at 330 (by decide +kernel) rfl⟩
theorem ak_13_9 : okA ((13, 9), "PlanJudge$State") := ⟨"PlanJudge$Arranger", rfl, lw_at 329 (by decide +kernel) rfl, lw_at 330 (by decide +kernel) rfl⟩
theorem ak_4_2 : okA ((4, 2), "java/lang/Object") := ⟨"java/util/Arrays", rfl, lw_at 886 (by decide +kernel) rfl, lw_at 885 (by decide +kernel) rfl⟩
theorem ak_6_7 : okA ((6, 7), "java/lang/Object") := ⟨"java/util/ArrayList", rfl, lw_at 892 (by decide +kernel) rfl, lw_at 885 (by decide +kernel) rfl⟩
def rAs_0 : List ((Nat × Nat) × String) := [((5, 18), "PlanJudge$State"), ((11, 15), "PlanJudge$State"), ((12, 27), "PlanJudge$State"), ((13, 9), "PlanJudge$State"), ((4, 2), "java/lang/Object"), ((6, 7), "java/lang/Object")]
theorem ok_rAs_0 : ∀ x ∈ rAs_0, okA x := List.forall_mem_cons.mpr ⟨ak_5_18, List.forall_mem_cons.mpr ⟨ak_11_15, List.forall_mem_cons.mpr ⟨ak_12_27, List.forall_mem_cons.mpr ⟨ak_13_9, List.forall_mem_cons.mpr ⟨ak_4_2, List.forall_mem_cons.mpr ⟨ak_6_7, fun _ h => absurd h List.not_mem_nil⟩⟩⟩⟩⟩⟩
def rAs : List ((Nat × Nat) × String) := rAs_0
theorem ok_rAs : ∀ x ∈ rAs, okA x := ok_rAs_0
def okY (x : (Nat × Nat) × Nat) : Prop := ∃ own : String, homes[x.1.1]? = some own ∧ Cond.methodLink own x.1.2 arraycopyName ∈ lw_t2
theorem yk_3_24 : okY ((3, 24), 0) := ⟨"PlanJudge$Fractions", rfl, lw_at 457 (by decide +kernel) rfl⟩
theorem yk_4_150 : okY ((4, 150), 0) := ⟨"java/util/Arrays", rfl, lw_at 890 (by decide +kernel) rfl⟩
def rYs_0 : List ((Nat × Nat) × Nat) := [((3, 24), 0), ((4, 150), 0)]
theorem ok_rYs_0 : ∀ x ∈ rYs_0, okY x := List.forall_mem_cons.mpr ⟨yk_3_24, List.forall_mem_cons.mpr ⟨yk_4_150, fun _ h => absurd h List.not_mem_nil⟩⟩
def rYs : List ((Nat × Nat) × Nat) := rYs_0
theorem ok_rYs : ∀ x ∈ rYs, okY x := ok_rYs_0
