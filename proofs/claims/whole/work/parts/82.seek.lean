/-! The class: a row is told; seek. -/
section R82
variable {s0 s1 : AC} {rest : AM} {ab : Int → Nat}
variable {alS alM plS plP veW veF veP juP arP arB arU arF : Int}
variable {handN handD fiN fiD epN epD goH goN goD plA plBN plBD plLN plLD plR vsN vsD juTN juTD juO scN scD noN noD neN neD arR arL arT arA arS leN leD grN grD arLU arGU shN shD : Int → Int}
variable {stN stD : Int → Int → Int}
variable {stF : Int → Int → Prop}
variable {gT gF fiF plM vsF juM noF neF arM arH : Int → Prop}
variable {alE : Nat}
variable {code amountN amountD momentN momentD epsilonN epsilonD actions steps rows tried triedRows unit point judged fault faultPoint outN outD : Int}
variable {firstN firstD wishes wants wantN wantD needs needTime needOf needHow needN needD changes changeTime changeOf changeHow changeN changeD lastOf lastN lastD stepAction startN startD lengthN lengthD row triedAction triedRow times numN numD oldN oldD toldN toldD pointN pointD leastN leastD greatestN greatestD events : Int → Int}
variable {firstFacts facts oldFacts toldFacts gone now : Int → Prop}
variable {R m k p a : Int} {mem : AM}
variable {i sz lo hi : Int}
theorem c_chk_ok {d : Nat}  (b_i : -2147483648 ≤ i ∧ i < 2147483648) (b_lo : -2147483648 ≤ lo ∧ lo < 2147483648) (b_hi : -2147483648 ≤ hi ∧ hi < 2147483648) (h : lo ≤ i ∧ i ≤ hi) : Cg true d m_PJ_checkChoice [.int (iI i), .int (iI lo), .int (iI hi)] mem (.inl none) mem := by
  refine Cg.of (Nat.le_of_ble_eq_true rfl) ?_
  change Rg _ _ _ _ 0 [(0, .int (iI i)), (1, .int (iI lo)), (2, .int (iI hi))] [] _ _ _
  refine Rg.step 1 F_PJ_checkChoice_0 rfl (fun _ => rfl) ?_
  refine Rg.step 2 F_PJ_checkChoice_1 rfl (fun _ => rfl) ?_
  refine Rg.icltI 10 5 F_PJ_checkChoice_2 rfl rfl (by omega) (by omega) (fun h2 => by omega) (fun _ => ?_)
  refine Rg.step 6 F_PJ_checkChoice_5 rfl (fun _ => rfl) ?_
  refine Rg.step 7 F_PJ_checkChoice_6 rfl (fun _ => rfl) ?_
  refine Rg.icleI 18 10 F_PJ_checkChoice_7 rfl rfl (by omega) (by omega) (fun _ => ?_) (fun h7 => by omega)
  exact Rg.retV F_PJ_checkChoice_18 rfl rfl
theorem c_chk_lo {d : Nat} (b_i : -2147483648 ≤ i ∧ i < 2147483648) (b_lo : -2147483648 ≤ lo ∧ lo < 2147483648) (b_hi : -2147483648 ≤ hi ∧ hi < 2147483648) (h : i < lo) : Cg true d m_PJ_checkChoice [.int (iI i), .int (iI lo), .int (iI hi)] mem (.inr mem.length) (mem ++ [.inr (12, [])]) := by
  refine Cg.of (Nat.le_of_ble_eq_true rfl) ?_
  change Rg _ _ _ _ 0 [(0, .int (iI i)), (1, .int (iI lo)), (2, .int (iI hi))] [] _ _ _
  refine Rg.step 1 F_PJ_checkChoice_0 rfl (fun _ => rfl) ?_
  refine Rg.step 2 F_PJ_checkChoice_1 rfl (fun _ => rfl) ?_
  refine Rg.icltI 10 5 F_PJ_checkChoice_2 rfl rfl (by omega) (by omega) (fun _ => ?_) (fun h2 => by omega)
  exact Rg.thr F_PJ_checkChoice_10 F_PJ_checkChoice_13 F_PJ_checkChoice_14 F_PJ_checkChoice_17 rC_1_61 rfl (by decide) rE_1_63 rfl rfl (by decide)
theorem c_chk_hi {d : Nat} (b_i : -2147483648 ≤ i ∧ i < 2147483648) (b_lo : -2147483648 ≤ lo ∧ lo < 2147483648) (b_hi : -2147483648 ≤ hi ∧ hi < 2147483648) (h : hi < i) : Cg true d m_PJ_checkChoice [.int (iI i), .int (iI lo), .int (iI hi)] mem (.inr mem.length) (mem ++ [.inr (12, [])]) := by
  refine Cg.of (Nat.le_of_ble_eq_true rfl) ?_
  change Rg _ _ _ _ 0 [(0, .int (iI i)), (1, .int (iI lo)), (2, .int (iI hi))] [] _ _ _
  refine Rg.step 1 F_PJ_checkChoice_0 rfl (fun _ => rfl) ?_
  refine Rg.step 2 F_PJ_checkChoice_1 rfl (fun _ => rfl) ?_
  refine Rg.icltI 10 5 F_PJ_checkChoice_2 rfl rfl (by omega) (by omega) (fun h2 => ?_) (fun h2 => ?_)
  · exact Rg.thr F_PJ_checkChoice_10 F_PJ_checkChoice_13 F_PJ_checkChoice_14 F_PJ_checkChoice_17 rC_1_61 rfl (by decide) rE_1_63 rfl rfl (by decide)
  · refine Rg.step 6 F_PJ_checkChoice_5 rfl (fun _ => rfl) ?_
    refine Rg.step 7 F_PJ_checkChoice_6 rfl (fun _ => rfl) ?_
    refine Rg.icleI 18 10 F_PJ_checkChoice_7 rfl rfl (by omega) (by omega) (fun h7 => by omega) (fun _ => ?_)
    exact Rg.thr F_PJ_checkChoice_10 F_PJ_checkChoice_13 F_PJ_checkChoice_14 F_PJ_checkChoice_17 rC_1_61 rfl (by decide) rE_1_63 rfl rfl (by decide)
theorem c_chk_no {d : Nat} (b_i : -2147483648 ≤ i ∧ i < 2147483648) (b_lo : -2147483648 ≤ lo ∧ lo < 2147483648) (b_hi : -2147483648 ≤ hi ∧ hi < 2147483648) (h : ¬ (lo ≤ i ∧ i ≤ hi)) : Cg true d m_PJ_checkChoice [.int (iI i), .int (iI lo), .int (iI hi)] mem (.inr mem.length) (mem ++ [.inr (12, [])]) := by
  by_cases h1 : i < lo
  · exact c_chk_lo b_i b_lo b_hi h1
  · exact c_chk_hi b_i b_lo b_hi (by omega)
theorem c_idx_ok {d : Nat}  (b_i : -2147483648 ≤ i ∧ i < 2147483648) (b_sz : -2147483648 ≤ sz ∧ sz < 2147483648) (h : 0 ≤ i ∧ i < sz) : Cg true d m_PJ_checkIndex [.int (iI i), .int (iI sz)] mem (.inl none) mem := by
  refine Cg.of (Nat.le_of_ble_eq_true rfl) ?_
  change Rg _ _ _ _ 0 [(0, .int (iI i)), (1, .int (iI sz))] [] _ _ _
  refine Rg.step 1 F_PJ_checkIndex_0 rfl (fun _ => rfl) ?_
  refine Rg.ifltI 9 4 F_PJ_checkIndex_1 rfl rfl (by omega) (fun h1 => by omega) (fun _ => ?_)
  refine Rg.step 5 F_PJ_checkIndex_4 rfl (fun _ => rfl) ?_
  refine Rg.step 6 F_PJ_checkIndex_5 rfl (fun _ => rfl) ?_
  refine Rg.icltI 17 9 F_PJ_checkIndex_6 rfl rfl (by omega) (by omega) (fun _ => ?_) (fun h6 => by omega)
  exact Rg.retV F_PJ_checkIndex_17 rfl rfl
theorem c_idx_lo {d : Nat} (b_i : -2147483648 ≤ i ∧ i < 2147483648) (b_sz : -2147483648 ≤ sz ∧ sz < 2147483648) (h : i < 0) : Cg true d m_PJ_checkIndex [.int (iI i), .int (iI sz)] mem (.inr mem.length) (mem ++ [.inr (13, [])]) := by
  refine Cg.of (Nat.le_of_ble_eq_true rfl) ?_
  change Rg _ _ _ _ 0 [(0, .int (iI i)), (1, .int (iI sz))] [] _ _ _
  refine Rg.step 1 F_PJ_checkIndex_0 rfl (fun _ => rfl) ?_
  refine Rg.ifltI 9 4 F_PJ_checkIndex_1 rfl rfl (by omega) (fun _ => ?_) (fun h1 => by omega)
  exact Rg.thr F_PJ_checkIndex_9 F_PJ_checkIndex_12 F_PJ_checkIndex_13 F_PJ_checkIndex_16 rC_1_235 rfl (by decide) rE_1_237 rfl rfl (by decide)
theorem c_idx_hi {d : Nat} (b_i : -2147483648 ≤ i ∧ i < 2147483648) (b_sz : -2147483648 ≤ sz ∧ sz < 2147483648) (h : sz ≤ i) : Cg true d m_PJ_checkIndex [.int (iI i), .int (iI sz)] mem (.inr mem.length) (mem ++ [.inr (13, [])]) := by
  refine Cg.of (Nat.le_of_ble_eq_true rfl) ?_
  change Rg _ _ _ _ 0 [(0, .int (iI i)), (1, .int (iI sz))] [] _ _ _
  refine Rg.step 1 F_PJ_checkIndex_0 rfl (fun _ => rfl) ?_
  refine Rg.ifltI 9 4 F_PJ_checkIndex_1 rfl rfl (by omega) (fun h1 => ?_) (fun h1 => ?_)
  · exact Rg.thr F_PJ_checkIndex_9 F_PJ_checkIndex_12 F_PJ_checkIndex_13 F_PJ_checkIndex_16 rC_1_235 rfl (by decide) rE_1_237 rfl rfl (by decide)
  · refine Rg.step 5 F_PJ_checkIndex_4 rfl (fun _ => rfl) ?_
    refine Rg.step 6 F_PJ_checkIndex_5 rfl (fun _ => rfl) ?_
    refine Rg.icltI 17 9 F_PJ_checkIndex_6 rfl rfl (by omega) (by omega) (fun h6 => by omega) (fun _ => ?_)
    exact Rg.thr F_PJ_checkIndex_9 F_PJ_checkIndex_12 F_PJ_checkIndex_13 F_PJ_checkIndex_16 rC_1_235 rfl (by decide) rE_1_237 rfl rfl (by decide)
theorem c_idx_no {d : Nat} (b_i : -2147483648 ≤ i ∧ i < 2147483648) (b_sz : -2147483648 ≤ sz ∧ sz < 2147483648) (h : ¬ (0 ≤ i ∧ i < sz)) : Cg true d m_PJ_checkIndex [.int (iI i), .int (iI sz)] mem (.inr mem.length) (mem ++ [.inr (13, [])]) := by
  by_cases h1 : i < 0
  · exact c_idx_lo b_i b_sz h1
  · exact c_idx_hi b_i b_sz (by omega)
theorem c_room_ok {d : Nat}  (b_i : -2147483648 ≤ i ∧ i < 2147483648) (b_sz : -2147483648 ≤ sz ∧ sz < 2147483648) (h : i < sz) : Cg true d m_PJ_checkRoom [.int (iI i), .int (iI sz)] mem (.inl none) mem := by
  refine Cg.of (Nat.le_of_ble_eq_true rfl) ?_
  change Rg _ _ _ _ 0 [(0, .int (iI i)), (1, .int (iI sz))] [] _ _ _
  refine Rg.step 1 F_PJ_checkRoom_0 rfl (fun _ => rfl) ?_
  refine Rg.step 2 F_PJ_checkRoom_1 rfl (fun _ => rfl) ?_
  refine Rg.icltI 13 5 F_PJ_checkRoom_2 rfl rfl (by omega) (by omega) (fun _ => ?_) (fun h2 => by omega)
  exact Rg.retV F_PJ_checkRoom_13 rfl rfl
theorem c_room_no {d : Nat} (b_i : -2147483648 ≤ i ∧ i < 2147483648) (b_sz : -2147483648 ≤ sz ∧ sz < 2147483648) (h : sz ≤ i) : Cg true d m_PJ_checkRoom [.int (iI i), .int (iI sz)] mem (.inr mem.length) (mem ++ [.inr (14, [])]) := by
  refine Cg.of (Nat.le_of_ble_eq_true rfl) ?_
  change Rg _ _ _ _ 0 [(0, .int (iI i)), (1, .int (iI sz))] [] _ _ _
  refine Rg.step 1 F_PJ_checkRoom_0 rfl (fun _ => rfl) ?_
  refine Rg.step 2 F_PJ_checkRoom_1 rfl (fun _ => rfl) ?_
  refine Rg.icltI 13 5 F_PJ_checkRoom_2 rfl rfl (by omega) (by omega) (fun h2 => by omega) (fun _ => ?_)
  exact Rg.thr F_PJ_checkRoom_5 F_PJ_checkRoom_8 F_PJ_checkRoom_9 F_PJ_checkRoom_12 rC_1_196 rfl (by decide) rE_1_198 rfl rfl (by decide)
theorem c_toc_ok {d : Nat}  (b_i : -2147483648 ≤ i ∧ i < 2147483648) (h : i = 0 ∨ i = 2) : Cg true d m_PJ_checkTimeOfChange [.int (iI i)] mem (.inl none) mem := by
  refine Cg.of (Nat.le_of_ble_eq_true rfl) ?_
  change Rg _ _ _ _ 0 [(0, .int (iI i))] [] _ _ _
  refine Rg.step 1 F_PJ_checkTimeOfChange_0 rfl (fun _ => rfl) ?_
  refine Rg.ifeqI 17 4 F_PJ_checkTimeOfChange_1 rfl rfl (by omega) (fun h1 => ?_) (fun h1 => ?_)
  · exact Rg.retV F_PJ_checkTimeOfChange_17 rfl rfl
  · refine Rg.step 5 F_PJ_checkTimeOfChange_4 rfl (fun _ => rfl) ?_
    refine Rg.step 6 F_PJ_checkTimeOfChange_5 rfl (fun _ => rfl) ?_
    refine Rg.iceqI 17 9 F_PJ_checkTimeOfChange_6 rfl rfl (by omega) (by omega) (fun _ => ?_) (fun h6 => by omega)
    exact Rg.retV F_PJ_checkTimeOfChange_17 rfl rfl
theorem c_toc_no {d : Nat} (b_i : -2147483648 ≤ i ∧ i < 2147483648) (h : ¬ (i = 0 ∨ i = 2)) : Cg true d m_PJ_checkTimeOfChange [.int (iI i)] mem (.inr mem.length) (mem ++ [.inr (12, [])]) := by
  refine Cg.of (Nat.le_of_ble_eq_true rfl) ?_
  change Rg _ _ _ _ 0 [(0, .int (iI i))] [] _ _ _
  refine Rg.step 1 F_PJ_checkTimeOfChange_0 rfl (fun _ => rfl) ?_
  refine Rg.ifeqI 17 4 F_PJ_checkTimeOfChange_1 rfl rfl (by omega) (fun h1 => by omega) (fun _ => ?_)
  refine Rg.step 5 F_PJ_checkTimeOfChange_4 rfl (fun _ => rfl) ?_
  refine Rg.step 6 F_PJ_checkTimeOfChange_5 rfl (fun _ => rfl) ?_
  refine Rg.iceqI 17 9 F_PJ_checkTimeOfChange_6 rfl rfl (by omega) (by omega) (fun h6 => by omega) (fun _ => ?_)
  exact Rg.thr F_PJ_checkTimeOfChange_9 F_PJ_checkTimeOfChange_12 F_PJ_checkTimeOfChange_13 F_PJ_checkTimeOfChange_16 rC_1_61 rfl (by decide) rE_1_63 rfl rfl (by decide)
theorem c_Pl_empty {d : Nat}   : Cg false d m_Plan_empty [.ref 19] (MC s0 s1 handN handD gT gF alE actions alM fiF fiN fiD epN epD goH goN goD plS plP plM plA plBN plBD plLN plLD plR veW veF veP vsF vsN vsD juM juP juTN juTD juO scN scD noF noN noD neF neN neD arP arB arM arU arF arR arL arT arA arS leN leD grN grD arH arLU arGU shN shD stF stN stD rest) (.inl none) (MC s0 s1 handN handD gT gF alE actions alM fiF fiN fiD epN epD goH goN goD 0 0 (fun _ => False) plA plBN plBD plLN plLD plR veW veF veP vsF vsN vsD juM juP juTN juTD juO scN scD noF noN noD neF neN neD arP arB arM arU arF arR arL arT arA arS leN leD grN grD arH arLU arGU shN shD stF stN stD rest) := by
  refine Cg.of (Nat.le_of_ble_eq_true rfl) ?_
  change Rg _ _ _ _ 0 [(0, .ref 19)] [] _ _ _
  refine Rg.step 1 F_Plan_empty_0 rfl (fun _ => rfl) ?_
  refine Rg.step 2 F_Plan_empty_1 rfl (fun _ => rfl) ?_
  refine Rg.put 5 F_Plan_empty_2 rfl rF_10_30 gC_19 (by decide) (Nat.le_of_ble_eq_true rfl) (Or.inl rfl) rfl sO_plS ?_
  refine Rg.step 6 F_Plan_empty_5 rfl (fun _ => rfl) ?_
  refine Rg.step 7 F_Plan_empty_6 rfl (fun _ => rfl) ?_
  refine Rg.put 10 F_Plan_empty_7 rfl rF_10_34 gC_19 (by decide) (Nat.le_of_ble_eq_true rfl) (Or.inl rfl) rfl sO_plP ?_
  refine Rg.step 11 F_Plan_empty_10 rfl (fun _ => rfl) ?_
  refine Rg.cK0 12 F_Plan_empty_11 rfl ?_
  refine Rg.put 15 F_Plan_empty_12 rfl rF_10_37 gC_19 (by decide) (Nat.le_of_ble_eq_true rfl) (Or.inl rfl) rfl sO_plM ?_
  exact Rg.retV F_Plan_empty_15 rfl rfl
theorem c_Pl_addStep {d : Nat}  (hs : 0 ≤ plS ∧ plS < 12) : Cg false d m_Plan_addStep [.ref 19, .int (iI a)] (MC s0 s1 handN handD gT gF alE actions alM fiF fiN fiD epN epD goH goN goD plS plP plM plA plBN plBD plLN plLD plR veW veF veP vsF vsN vsD juM juP juTN juTD juO scN scD noF noN noD neF neN neD arP arB arM arU arF arR arL arT arA arS leN leD grN grD arH arLU arGU shN shD stF stN stD rest) (.inl (some (.int (iI plS)))) (MC s0 s1 handN handD gT gF alE actions alM fiF fiN fiD epN epD goH goN goD (plS + 1) plP plM (up1 plA plS a) plBN plBD plLN plLD plR veW veF veP vsF vsN vsD juM juP juTN juTD juO scN scD noF noN noD neF neN neD arP arB arM arU arF arR arL arT arA arS leN leD grN grD arH arLU arGU shN shD stF stN stD rest) := by
  refine Cg.of (Nat.le_of_ble_eq_true rfl) ?_
  change Rg _ _ _ _ 0 [(0, .ref 19), (1, .int (iI a))] [] _ _ _
  refine Rg.step 1 F_Plan_addStep_0 rfl (fun _ => rfl) ?_
  refine Rg.getf 4 F_Plan_addStep_1 rfl rF_10_9 gC_19 rfl ?_
  refine Rg.step 5 F_Plan_addStep_4 rfl (fun _ => rfl) ?_
  refine Rg.getf 8 F_Plan_addStep_5 rfl rF_10_30 gC_19 rfl ?_
  refine Rg.step 9 F_Plan_addStep_8 rfl (fun _ => rfl) ?_
  refine Rg.ist 10 F_Plan_addStep_9 rfl gC_20 (by decide) sC_plA (by omega) (by decide) ?_
  refine Rg.step 11 F_Plan_addStep_10 rfl (fun _ => rfl) ?_
  refine Rg.step 12 F_Plan_addStep_11 rfl (fun _ => rfl) ?_
  refine Rg.getf 15 F_Plan_addStep_12 rfl rF_10_30 gC_19 rfl ?_
  refine Rg.step 16 F_Plan_addStep_15 rfl (fun _ => rfl) ?_
  refine Rg.addI 17 F_Plan_addStep_16 rfl ?_
  refine Rg.put 20 F_Plan_addStep_17 rfl rF_10_30 gC_19 (by decide) (Nat.le_of_ble_eq_true rfl) (Or.inl rfl) rfl sO_plS ?_
  refine Rg.step 21 F_Plan_addStep_20 rfl (fun _ => rfl) ?_
  refine Rg.getf 24 F_Plan_addStep_21 rfl rF_10_30 gC_19 rfl ?_
  refine Rg.step 25 F_Plan_addStep_24 rfl (fun _ => rfl) ?_
  refine Rg.subI 26 F_Plan_addStep_25 rfl ?_
  exact Rg.retI F_Plan_addStep_26 rfl (by omega) rfl
theorem c_Pl_addRow {d : Nat}  (hs : 0 ≤ plP ∧ plP < 24) (hp : 0 ≤ p ∧ p < 24) : Cg false d m_Plan_addToRow [.ref 19, .int (iI p)] (MC s0 s1 handN handD gT gF alE actions alM fiF fiN fiD epN epD goH goN goD plS plP plM plA plBN plBD plLN plLD plR veW veF veP vsF vsN vsD juM juP juTN juTD juO scN scD noF noN noD neF neN neD arP arB arM arU arF arR arL arT arA arS leN leD grN grD arH arLU arGU shN shD stF stN stD rest) (.inl none) (MC s0 s1 handN handD gT gF alE actions alM fiF fiN fiD epN epD goH goN goD plS (plP + 1) (fun i => plM i ∨ i = p) plA plBN plBD plLN plLD (up1 plR plP p) veW veF veP vsF vsN vsD juM juP juTN juTD juO scN scD noF noN noD neF neN neD arP arB arM arU arF arR arL arT arA arS leN leD grN grD arH arLU arGU shN shD stF stN stD rest) := by
  refine Cg.of (Nat.le_of_ble_eq_true rfl) ?_
  change Rg _ _ _ _ 0 [(0, .ref 19), (1, .int (iI p))] [] _ _ _
  refine Rg.step 1 F_Plan_addToRow_0 rfl (fun _ => rfl) ?_
  refine Rg.getf 4 F_Plan_addToRow_1 rfl rF_10_27 gC_19 rfl ?_
  refine Rg.step 5 F_Plan_addToRow_4 rfl (fun _ => rfl) ?_
  refine Rg.getf 8 F_Plan_addToRow_5 rfl rF_10_34 gC_19 rfl ?_
  refine Rg.step 9 F_Plan_addToRow_8 rfl (fun _ => rfl) ?_
  refine Rg.ist 10 F_Plan_addToRow_9 rfl gC_27 (by decide) sC_plR (by omega) (by decide) ?_
  refine Rg.step 11 F_Plan_addToRow_10 rfl (fun _ => rfl) ?_
  refine Rg.step 12 F_Plan_addToRow_11 rfl (fun _ => rfl) ?_
  refine Rg.getf 15 F_Plan_addToRow_12 rfl rF_10_34 gC_19 rfl ?_
  refine Rg.step 16 F_Plan_addToRow_15 rfl (fun _ => rfl) ?_
  refine Rg.addI 17 F_Plan_addToRow_16 rfl ?_
  refine Rg.put 20 F_Plan_addToRow_17 rfl rF_10_34 gC_19 (by decide) (Nat.le_of_ble_eq_true rfl) (Or.inl rfl) rfl sO_plP ?_
  refine Rg.step 21 F_Plan_addToRow_20 rfl (fun _ => rfl) ?_
  refine Rg.step 22 F_Plan_addToRow_21 rfl (fun _ => rfl) ?_
  refine Rg.getf 25 F_Plan_addToRow_22 rfl rF_10_37 gC_19 rfl ?_
  refine Rg.step 26 F_Plan_addToRow_25 rfl (fun _ => rfl) ?_
  refine Rg.step 27 F_Plan_addToRow_26 rfl (fun _ => rfl) ?_
  refine Rg.shlK 28 F_Plan_addToRow_27 rfl (by omega) ?_
  refine Rg.orK 29 F_Plan_addToRow_28 rfl ?_
  refine Rg.put 32 F_Plan_addToRow_29 rfl rF_10_37 gC_19 (by decide) (Nat.le_of_ble_eq_true rfl) (Or.inl rfl) rfl sO_plM ?_
  exact Rg.retV F_Plan_addToRow_32 rfl rfl
theorem trw_2 {d n0 : Nat} (hm : 0 ≤ m ∧ m ≤ 12) (hR : 0 ≤ R ∧ R ≤ 24) (hr : ∀ k, 0 ≤ k → k < R → 0 ≤ arR k ∧ arR k < 24) : ∀ (n : Nat) (k : Int) (r : Int → Int) (F : Int → Prop), k + n = R → 0 ≤ k → (∀ i, 0 ≤ i → i < k → r i = arR i) → (∀ p, F p ↔ grp arR 0 k p) → ∃ (r1 : Int → Int) (F1 : Int → Prop), (∀ i, 0 ≤ i → i < R → r1 i = arR i) ∧ (∀ p, F1 p ↔ grp arR 0 R p) ∧ Rg false (d + 1) m_Arranger_tellRow n0 33 [(2, .int (iI k)), (0, .ref 49), (1, .ref 19)] [] (MC s0 s1 handN handD gT gF alE actions alM fiF fiN fiD epN epD goH goN goD m k F plA plBN plBD plLN plLD r veW veF veP vsF vsN vsD juM juP juTN juTD juO scN scD noF noN noD neF neN neD R m arM arU arF arR arL arT arA arS leN leD grN grD arH arLU arGU shN shD stF stN stD rest) (.inl none) (MC s0 s1 handN handD gT gF alE actions alM fiF fiN fiD epN epD goH goN goD m R F1 plA plBN plBD plLN plLD r1 veW veF veP vsF vsN vsD juM juP juTN juTD juO scN scD noF noN noD neF neN neD R m arM arU arF arR arL arT arA arS leN leD grN grD arH arLU arGU shN shD stF stN stD rest) := by
  intro n
  induction n with
  | zero =>
    intro k r F hk hk2 h1 h2
    have ek : k = R := by omega
    subst ek
    refine ⟨r, F, h1, h2, ?_⟩
    refine Rg.step 34 F_Arranger_tellRow_33 rfl (fun _ => rfl) ?_
    refine Rg.step 35 F_Arranger_tellRow_34 rfl (fun _ => rfl) ?_
    refine Rg.getf 38 F_Arranger_tellRow_35 rfl rF_13_64 gC_49 rfl ?_
    refine Rg.icgeI 57 41 F_Arranger_tellRow_38 rfl rfl (by omega) (by omega) (fun _ => ?_) (fun h38 => by omega)
    exact Rg.retV F_Arranger_tellRow_57 rfl rfl
  | succ n ih =>
    intro k r F hk hk2 h1 h2
    have hrk := hr k hk2 (by omega)
    obtain ⟨r1, F1, j1, j2, ht⟩ := ih (k + 1) (up1 r k (arR k)) (fun i => F i ∨ i = arR k) (by omega) (by omega) (fun i z1 z2 => by
      by_cases h : i = k
      · rw [h, up1_eq]
      · rw [up1_ne _ _ h]; exact h1 i z1 (by omega)) (fun p => by
      rw [grp_1 hk2, h2])
    refine ⟨r1, F1, j1, j2, ?_⟩
    refine Rg.step 34 F_Arranger_tellRow_33 rfl (fun _ => rfl) ?_
    refine Rg.step 35 F_Arranger_tellRow_34 rfl (fun _ => rfl) ?_
    refine Rg.getf 38 F_Arranger_tellRow_35 rfl rF_13_64 gC_49 rfl ?_
    refine Rg.icgeI 57 41 F_Arranger_tellRow_38 rfl rfl (by omega) (by omega) (fun h38 => by omega) (fun _ => ?_)
    refine Rg.step 42 F_Arranger_tellRow_41 rfl (fun _ => rfl) ?_
    refine Rg.step 43 F_Arranger_tellRow_42 rfl (fun _ => rfl) ?_
    refine Rg.getf 46 F_Arranger_tellRow_43 rfl rF_13_17 gC_49 rfl ?_
    refine Rg.step 47 F_Arranger_tellRow_46 rfl (fun _ => rfl) ?_
    refine Rg.ild 48 F_Arranger_tellRow_47 rfl gC_51 (by omega) (by decide) ?_
    refine Rg.call 51 F_Arranger_tellRow_48 rfl (one_V rM_13_155 (by decide) (by simp) rfl rfl gC_19 rfl) (Nat.le_of_ble_eq_true rfl) (c_Pl_addRow (by omega) hrk) ?_
    refine Rg.inc 54 F_Arranger_tellRow_51 rfl rfl (by decide) ?_
    refine Rg.step 33 F_Arranger_tellRow_54 rfl (fun _ => rfl) ?_
    exact Rg.weak ht (by simp [lput1, lput2, Value.category, fi0, fi1, fi2, fi3] <;> first | rfl | exact ⟨rfl, rfl⟩) (by simp [lput1, lput2, Value.category, fi0, fi1, fi2, fi3] <;> first | rfl | exact ⟨rfl, rfl⟩)
theorem trw_1 {d n0 : Nat} (hm : 0 ≤ m ∧ m ≤ 12) (hR : 0 ≤ R ∧ R ≤ 24) (hr : ∀ k, 0 ≤ k → k < R → 0 ≤ arR k ∧ arR k < 24) : ∀ (n : Nat) (k : Int) (A : Int → Int), k + n = m → 0 ≤ k → (∀ s, 0 ≤ s → s < k → A s = arA s) → ∃ (A1 r1 : Int → Int) (F1 : Int → Prop), (∀ s, 0 ≤ s → s < m → A1 s = arA s) ∧ (∀ i, 0 ≤ i → i < R → r1 i = arR i) ∧ (∀ p, F1 p ↔ grp arR 0 R p) ∧ Rg false (d + 1) m_Arranger_tellRow n0 6 [(2, .int (iI k)), (0, .ref 49), (1, .ref 19)] [] (MC s0 s1 handN handD gT gF alE actions alM fiF fiN fiD epN epD goH goN goD k 0 (fun _ => False) A plBN plBD plLN plLD plR veW veF veP vsF vsN vsD juM juP juTN juTD juO scN scD noF noN noD neF neN neD R m arM arU arF arR arL arT arA arS leN leD grN grD arH arLU arGU shN shD stF stN stD rest) (.inl none) (MC s0 s1 handN handD gT gF alE actions alM fiF fiN fiD epN epD goH goN goD m R F1 A1 plBN plBD plLN plLD r1 veW veF veP vsF vsN vsD juM juP juTN juTD juO scN scD noF noN noD neF neN neD R m arM arU arF arR arL arT arA arS leN leD grN grD arH arLU arGU shN shD stF stN stD rest) := by
  intro n
  induction n with
  | zero =>
    intro k A hk hk2 h1
    have ek : k = m := by omega
    subst ek
    obtain ⟨r1, F1, j1, j2, ht⟩ := trw_2 (d := d) (n0 := n0) (m := k) (R := R) (actions := actions) (s0 := s0) (s1 := s1) (rest := rest) (handN := handN) (handD := handD) (gT := gT) (gF := gF) (alE := alE) (alM := alM) (fiF := fiF) (fiN := fiN) (fiD := fiD) (epN := epN) (epD := epD) (goH := goH) (goN := goN) (goD := goD) (plA := A) (plBN := plBN) (plBD := plBD) (plLN := plLN) (plLD := plLD) (veW := veW) (veF := veF) (veP := veP) (vsF := vsF) (vsN := vsN) (vsD := vsD) (juM := juM) (juP := juP) (juTN := juTN) (juTD := juTD) (juO := juO) (scN := scN) (scD := scD) (noF := noF) (noN := noN) (noD := noD) (neF := neF) (neN := neN) (neD := neD) (arM := arM) (arU := arU) (arF := arF) (arR := arR) (arL := arL) (arT := arT) (arA := arA) (arS := arS) (leN := leN) (leD := leD) (grN := grN) (grD := grD) (arH := arH) (arLU := arLU) (arGU := arGU) (shN := shN) (shD := shD) (stF := stF) (stN := stN) (stD := stD) hm hR hr R.toNat 0 plR (fun _ => False) (by omega) (by omega) (fun i z1 z2 => by omega) (fun p => ⟨False.elim, fun ⟨i, y1, y2, _⟩ => by omega⟩)
    refine ⟨A, r1, F1, h1, j1, j2, ?_⟩
    refine Rg.step 7 F_Arranger_tellRow_6 rfl (fun _ => rfl) ?_
    refine Rg.step 8 F_Arranger_tellRow_7 rfl (fun _ => rfl) ?_
    refine Rg.getf 11 F_Arranger_tellRow_8 rfl rF_13_68 gC_49 rfl ?_
    refine Rg.icgeI 31 14 F_Arranger_tellRow_11 rfl rfl (by omega) (by omega) (fun _ => ?_) (fun h11 => by omega)
    refine Rg.step 32 F_Arranger_tellRow_31 rfl (fun _ => rfl) ?_
    refine Rg.step 33 F_Arranger_tellRow_32 rfl (fun _ => rfl) ?_
    exact Rg.weak ht (by simp [lput1, lput2, Value.category, fi0, fi1, fi2, fi3] <;> first | rfl | exact ⟨rfl, rfl⟩) (by simp [lput1, lput2, Value.category, fi0, fi1, fi2, fi3] <;> first | rfl | exact ⟨rfl, rfl⟩)
  | succ n ih =>
    intro k A hk hk2 h1
    obtain ⟨A1, r1, F1, j0, j1, j2, ht⟩ := ih (k + 1) (up1 A k (arA k)) (by omega) (by omega) (fun i z1 z2 => by
      by_cases h : i = k
      · rw [h, up1_eq]
      · rw [up1_ne _ _ h]; exact h1 i z1 (by omega))
    refine ⟨A1, r1, F1, j0, j1, j2, ?_⟩
    refine Rg.step 7 F_Arranger_tellRow_6 rfl (fun _ => rfl) ?_
    refine Rg.step 8 F_Arranger_tellRow_7 rfl (fun _ => rfl) ?_
    refine Rg.getf 11 F_Arranger_tellRow_8 rfl rF_13_68 gC_49 rfl ?_
    refine Rg.icgeI 31 14 F_Arranger_tellRow_11 rfl rfl (by omega) (by omega) (fun h11 => by omega) (fun _ => ?_)
    refine Rg.step 15 F_Arranger_tellRow_14 rfl (fun _ => rfl) ?_
    refine Rg.step 16 F_Arranger_tellRow_15 rfl (fun _ => rfl) ?_
    refine Rg.getf 19 F_Arranger_tellRow_16 rfl rF_13_28 gC_49 rfl ?_
    refine Rg.step 20 F_Arranger_tellRow_19 rfl (fun _ => rfl) ?_
    refine Rg.ild 21 F_Arranger_tellRow_20 rfl gC_54 (by omega) (by decide) ?_
    refine Rg.call 24 F_Arranger_tellRow_21 rfl (one_V rM_13_152 (by decide) (by simp) rfl rfl gC_19 rfl) (Nat.le_of_ble_eq_true rfl) (c_Pl_addStep (by omega)) ?_
    refine Rg.step 25 F_Arranger_tellRow_24 rfl (fun _ => rfl) ?_
    refine Rg.inc 28 F_Arranger_tellRow_25 rfl rfl (by decide) ?_
    refine Rg.step 6 F_Arranger_tellRow_28 rfl (fun _ => rfl) ?_
    exact Rg.weak ht (by simp [lput1, lput2, Value.category, fi0, fi1, fi2, fi3] <;> first | rfl | exact ⟨rfl, rfl⟩) (by simp [lput1, lput2, Value.category, fi0, fi1, fi2, fi3] <;> first | rfl | exact ⟨rfl, rfl⟩)
theorem c_Ar_tellRow {d : Nat} (hm : 0 ≤ m ∧ m ≤ 12) (hR : 0 ≤ R ∧ R ≤ 24) (hr : ∀ k, 0 ≤ k → k < R → 0 ≤ arR k ∧ arR k < 24) : ∃ (A1 r1 : Int → Int) (F1 : Int → Prop), (∀ s, 0 ≤ s → s < m → A1 s = arA s) ∧ (∀ i, 0 ≤ i → i < R → r1 i = arR i) ∧ (∀ p, F1 p ↔ grp arR 0 R p) ∧ Cg false (d + 1) m_Arranger_tellRow [.ref 49, .ref 19] (MC s0 s1 handN handD gT gF alE actions alM fiF fiN fiD epN epD goH goN goD plS plP plM plA plBN plBD plLN plLD plR veW veF veP vsF vsN vsD juM juP juTN juTD juO scN scD noF noN noD neF neN neD R m arM arU arF arR arL arT arA arS leN leD grN grD arH arLU arGU shN shD stF stN stD rest) (.inl none) (MC s0 s1 handN handD gT gF alE actions alM fiF fiN fiD epN epD goH goN goD m R F1 A1 plBN plBD plLN plLD r1 veW veF veP vsF vsN vsD juM juP juTN juTD juO scN scD noF noN noD neF neN neD R m arM arU arF arR arL arT arA arS leN leD grN grD arH arLU arGU shN shD stF stN stD rest) := by
  obtain ⟨A1, r1, F1, j0, j1, j2, ht⟩ := trw_1 (d := d) (n0 := (MC s0 s1 handN handD gT gF alE actions alM fiF fiN fiD epN epD goH goN goD plS plP plM plA plBN plBD plLN plLD plR veW veF veP vsF vsN vsD juM juP juTN juTD juO scN scD noF noN noD neF neN neD R m arM arU arF arR arL arT arA arS leN leD grN grD arH arLU arGU shN shD stF stN stD rest).length) (m := m) (R := R) (actions := actions) (s0 := s0) (s1 := s1) (rest := rest) (handN := handN) (handD := handD) (gT := gT) (gF := gF) (alE := alE) (alM := alM) (fiF := fiF) (fiN := fiN) (fiD := fiD) (epN := epN) (epD := epD) (goH := goH) (goN := goN) (goD := goD) (plBN := plBN) (plBD := plBD) (plLN := plLN) (plLD := plLD) (plR := plR) (veW := veW) (veF := veF) (veP := veP) (vsF := vsF) (vsN := vsN) (vsD := vsD) (juM := juM) (juP := juP) (juTN := juTN) (juTD := juTD) (juO := juO) (scN := scN) (scD := scD) (noF := noF) (noN := noN) (noD := noD) (neF := neF) (neN := neN) (neD := neD) (arM := arM) (arU := arU) (arF := arF) (arR := arR) (arL := arL) (arT := arT) (arA := arA) (arS := arS) (leN := leN) (leD := leD) (grN := grN) (grD := grD) (arH := arH) (arLU := arLU) (arGU := arGU) (shN := shN) (shD := shD) (stF := stF) (stN := stN) (stD := stD) hm hR hr m.toNat 0 plA (by omega) (by omega) (fun i z1 z2 => by omega)
  refine ⟨A1, r1, F1, j0, j1, j2, ?_⟩
  refine Cg.of (Nat.le_of_ble_eq_true rfl) ?_
  change Rg _ _ _ _ 0 [(0, .ref 49), (1, .ref 19)] [] _ _ _
  refine Rg.step 1 F_Arranger_tellRow_0 rfl (fun _ => rfl) ?_
  refine Rg.call 4 F_Arranger_tellRow_1 rfl (one_V rM_13_149 (by decide) (by simp) rfl rfl gC_19 rfl) (Nat.le_of_ble_eq_true rfl) c_Pl_empty ?_
  refine Rg.step 5 F_Arranger_tellRow_4 rfl (fun _ => rfl) ?_
  refine Rg.step 6 F_Arranger_tellRow_5 rfl (fun _ => rfl) ?_
  exact Rg.weak ht (by simp [lput1, lput2, Value.category, fi0, fi1, fi2, fi3] <;> first | rfl | exact ⟨rfl, rfl⟩) (by simp [lput1, lput2, Value.category, fi0, fi1, fi2, fi3] <;> first | rfl | exact ⟨rfl, rfl⟩)
theorem psk_loop {d n0 : Nat} (hw : WT epsilonN epsilonD wishes wants wantN wantD actions needs needTime needOf needHow needN needD changes changeTime changeOf changeHow changeN changeD lastOf lastN lastD firstN firstD) (hO : ActsOK needs needTime needOf needHow needN needD changes changeTime changeOf changeHow changeN changeD lastOf lastN lastD rest alE actions ab) (hE : epN 0 = epsilonN ∧ epD 0 = epsilonD) (he : Int.gcd epsilonN epsilonD = 1) (hT : ∀ i, 0 ≤ i → i < 24 → (gT i ↔ i < 16 ∧ wishes i = 1)) (hF : ∀ i, 0 ≤ i → i < 24 → (gF i ↔ i < 16 ∧ wishes i = 0)) (hH : goH = wants) (hgN : goN = wantN) (hgD : goD = wantD) (wF : WN fiN fiD) {most : Int} (hmo : 0 ≤ most ∧ most ≤ 6) : ∀ (n k : Nat) (arP0 : Int) (arF0 : Int) (arU0 : Int) (arT0 : Int → Int) (shN0 : Int → Int) (shD0 : Int → Int) (arLU0 : Int → Int) (arGU0 : Int → Int) (arB0 : Int) (arM0 : Int → Prop) (arR0 : Int → Int) (arL0 : Int → Int) (arA0 : Int → Int) (arS0 : Int → Int) (leN0 : Int → Int) (leD0 : Int → Int) (grN0 : Int → Int) (grD0 : Int → Int) (arH0 : Int → Prop) (stF0 : Int → Int → Prop) (stN0 : Int → Int → Int) (stD0 : Int → Int → Int), k + n = 4 → (∃ (k1 : Nat) (ev' : Int → Int), k ≤ k1 ∧ 2 * (k1 : Int) ≤ most ∧ findE (GoodE actions (fun S a t => fit needs needTime needOf needHow needN needD S.1 S.2.1 S.2.2 a t) (fun S a t => chAll changeTime changeOf changeHow changeN changeD t (changes a).toNat (6 * a) S) (fun S a => (lbN lastOf lastN lastD epsilonN epsilonD S.2.1 S.2.2 a, lbD lastOf lastN lastD epsilonN epsilonD S.2.1 S.2.2 a, gbN lastOf lastN lastD S.2.1 S.2.2 a, gbD lastOf lastN lastD S.2.1 S.2.2 a)) (fun S => goal wishes wants wantN wantD S.1 S.2.1 S.2.2) (fun a t b u => interf needs needTime needHow needOf lastOf changes changeTime changeHow changeOf a t b u) epsilonN epsilonD (fiF, fiN, fiD) (2 * k1)) (2 * k1) 0 (fun _ => 0) = some ev' ∧ (∀ j : Nat, k ≤ j → j < k1 → findE (GoodE actions (fun S a t => fit needs needTime needOf needHow needN needD S.1 S.2.1 S.2.2 a t) (fun S a t => chAll changeTime changeOf changeHow changeN changeD t (changes a).toNat (6 * a) S) (fun S a => (lbN lastOf lastN lastD epsilonN epsilonD S.2.1 S.2.2 a, lbD lastOf lastN lastD epsilonN epsilonD S.2.1 S.2.2 a, gbN lastOf lastN lastD S.2.1 S.2.2 a, gbD lastOf lastN lastD S.2.1 S.2.2 a)) (fun S => goal wishes wants wantN wantD S.1 S.2.1 S.2.2) (fun a t b u => interf needs needTime needHow needOf lastOf changes changeTime changeHow changeOf a t b u) epsilonN epsilonD (fiF, fiN, fiD) (2 * j)) (2 * j) 0 (fun _ => 0) = none) ∧ ∃ (A1 T1 : Int → Int) (pt : Int) (S1 : NS) (u : Int) (t : Int → Int) (plS1 : Int) (plP1 : Int) (plA1 : Int → Int) (plR1 : Int → Int) (plM1 : Int → Prop) (plBN1 : Int → Int) (plBD1 : Int → Int) (plLN1 : Int → Int) (plLD1 : Int → Int) (arP1 : Int) (arF1 : Int) (arU1 : Int) (arT1 : Int → Int) (shN1 : Int → Int) (shD1 : Int → Int) (arLU1 : Int → Int) (arGU1 : Int → Int) (arB1 : Int) (arM1 : Int → Prop) (arR1 : Int → Int) (arL1 : Int → Int) (arA1 : Int → Int) (arS1 : Int → Int) (leN1 : Int → Int) (leD1 : Int → Int) (grN1 : Int → Int) (grD1 : Int → Int) (arH1 : Int → Prop) (stF1 : Int → Int → Prop) (stN1 : Int → Int → Int) (stD1 : Int → Int → Int), (evS actions ev' (2 * k1) 0 (0, 0, fun _ => 0, fun _ => 0) = some (plS1, plP1, A1, T1) ∧ plP1 = 2 * plS1 ∧ ArrA plS1 plP1 T1 A1 (fun S a t => fit needs needTime needOf needHow needN needD S.1 S.2.1 S.2.2 a t) (fun S a t => chAll changeTime changeOf changeHow changeN changeD t (changes a).toNat (6 * a) S) (fun S a => (lbN lastOf lastN lastD epsilonN epsilonD S.2.1 S.2.2 a, lbD lastOf lastN lastD epsilonN epsilonD S.2.1 S.2.2 a, gbN lastOf lastN lastD S.2.1 S.2.2 a, gbD lastOf lastN lastD S.2.1 S.2.2 a)) (fun S => goal wishes wants wantN wantD S.1 S.2.1 S.2.2) (fun a t b u => interf needs needTime needHow needOf lastOf changes changeTime changeHow changeOf a t b u) epsilonN epsilonD (fiF, fiN, fiD) 0 pt S1 u t ∧ (0 ≤ plS1 ∧ plS1 ≤ 3) ∧ (∀ s, 0 ≤ s → s < plS1 → plA1 s = A1 s ∧ 0 ≤ A1 s ∧ A1 s < actions) ∧ (∀ i, 0 ≤ i → i < plP1 → plR1 i = T1 i) ∧ (∀ p, plM1 p ↔ grp T1 0 plP1 p) ∧ (∀ k, 0 ≤ k → k < plP1 → RowOK T1 plS1 k) ∧ (∀ s, 0 ≤ s → s < plS1 → plBN1 s = nN (t (2 * s)) u ∧ plBD1 s = nD (t (2 * s)) u ∧ plLN1 s = nN (t (2 * s + 1) - t (2 * s)) u ∧ plLD1 s = nD (t (2 * s + 1) - t (2 * s)) u)) ∧ Rg false (d + 15) m_PJ_seek n0 9 [(2, .int (iI (2 * (k : Int)))), (0, .ref 2), (1, .int (iI most))] [] (MC s0 s1 handN handD gT gF alE actions alM fiF fiN fiD epN epD goH goN goD plS plP plM plA plBN plBD plLN plLD plR veW veF veP vsF vsN vsD juM juP juTN juTD juO scN scD noF noN noD neF neN neD arP0 arB0 arM0 arU0 arF0 arR0 arL0 arT0 arA0 arS0 leN0 leD0 grN0 grD0 arH0 arLU0 arGU0 shN0 shD0 stF0 stN0 stD0 rest) (.inl (some (.int (iI (2 * (k1 : Int)))))) (MC s0 s1 handN handD gT gF alE actions alM fiF fiN fiD epN epD goH goN goD plS1 plP1 plM1 plA1 plBN1 plBD1 plLN1 plLD1 plR1 veW veF veP vsF vsN vsD juM juP juTN juTD juO scN scD noF noN noD neF neN neD arP1 arB1 arM1 arU1 arF1 arR1 arL1 arT1 arA1 arS1 leN1 leD1 grN1 grD1 arH1 arLU1 arGU1 shN1 shD1 stF1 stN1 stD1 rest)) ∨ ((∀ j : Nat, k ≤ j → 2 * (j : Int) ≤ most → findE (GoodE actions (fun S a t => fit needs needTime needOf needHow needN needD S.1 S.2.1 S.2.2 a t) (fun S a t => chAll changeTime changeOf changeHow changeN changeD t (changes a).toNat (6 * a) S) (fun S a => (lbN lastOf lastN lastD epsilonN epsilonD S.2.1 S.2.2 a, lbD lastOf lastN lastD epsilonN epsilonD S.2.1 S.2.2 a, gbN lastOf lastN lastD S.2.1 S.2.2 a, gbD lastOf lastN lastD S.2.1 S.2.2 a)) (fun S => goal wishes wants wantN wantD S.1 S.2.1 S.2.2) (fun a t b u => interf needs needTime needHow needOf lastOf changes changeTime changeHow changeOf a t b u) epsilonN epsilonD (fiF, fiN, fiD) (2 * j)) (2 * j) 0 (fun _ => 0) = none) ∧ ∃ (arP1 : Int) (arF1 : Int) (arU1 : Int) (arT1 : Int → Int) (shN1 : Int → Int) (shD1 : Int → Int) (arLU1 : Int → Int) (arGU1 : Int → Int) (arB1 : Int) (arM1 : Int → Prop) (arR1 : Int → Int) (arL1 : Int → Int) (arA1 : Int → Int) (arS1 : Int → Int) (leN1 : Int → Int) (leD1 : Int → Int) (grN1 : Int → Int) (grD1 : Int → Int) (arH1 : Int → Prop) (stF1 : Int → Int → Prop) (stN1 : Int → Int → Int) (stD1 : Int → Int → Int), Rg false (d + 15) m_PJ_seek n0 9 [(2, .int (iI (2 * (k : Int)))), (0, .ref 2), (1, .int (iI most))] [] (MC s0 s1 handN handD gT gF alE actions alM fiF fiN fiD epN epD goH goN goD plS plP plM plA plBN plBD plLN plLD plR veW veF veP vsF vsN vsD juM juP juTN juTD juO scN scD noF noN noD neF neN neD arP0 arB0 arM0 arU0 arF0 arR0 arL0 arT0 arA0 arS0 leN0 leD0 grN0 grD0 arH0 arLU0 arGU0 shN0 shD0 stF0 stN0 stD0 rest) (.inl (some (.int (iI (-1))))) (MC s0 s1 handN handD gT gF alE actions alM fiF fiN fiD epN epD goH goN goD plS plP plM plA plBN plBD plLN plLD plR veW veF veP vsF vsN vsD juM juP juTN juTD juO scN scD noF noN noD neF neN neD arP1 arB1 arM1 arU1 arF1 arR1 arL1 arT1 arA1 arS1 leN1 leD1 grN1 grD1 arH1 arLU1 arGU1 shN1 shD1 stF1 stN1 stD1 rest)) := by
  obtain ⟨wE, -, -, -, wA, -, -, -, -, -, -, wc, -, -, -, -, wcD, -, -, -, -⟩ := id hw
  intro n
  induction n with
  | zero =>
    intro k arP0 arF0 arU0 arT0 shN0 shD0 arLU0 arGU0 arB0 arM0 arR0 arL0 arA0 arS0 leN0 leD0 grN0 grD0 arH0 stF0 stN0 stD0 hk
    refine Or.inr ⟨fun j z1 z2 => by omega, arP0, arF0, arU0, arT0, shN0, shD0, arLU0, arGU0, arB0, arM0, arR0, arL0, arA0, arS0, leN0, leD0, grN0, grD0, arH0, stF0, stN0, stD0, ?_⟩
    refine Rg.step 10 F_PJ_seek_9 rfl (fun _ => rfl) ?_
    refine Rg.step 11 F_PJ_seek_10 rfl (fun _ => rfl) ?_
    refine Rg.icgtI 73 14 F_PJ_seek_11 rfl rfl (by omega) (by omega) (fun _ => ?_) (fun h11 => by omega)
    refine Rg.step 74 F_PJ_seek_73 rfl (fun _ => rfl) ?_
    exact Rg.retI F_PJ_seek_74 rfl rfl rfl
  | succ n ih =>
    intro k arP0 arF0 arU0 arT0 shN0 shD0 arLU0 arGU0 arB0 arM0 arR0 arL0 arA0 arS0 leN0 leD0 grN0 grD0 arH0 stF0 stN0 stD0 hk
    by_cases hle : 2 * (k : Int) ≤ most
    · have ecast : ((2 * k : Nat) : Int) = 2 * (k : Int) := by omega
      have hai0 : ArI (fun _ => 0) (fun _ => 0) (intP (fun _ => 0) needs needTime needHow needOf lastOf changes changeTime changeHow changeOf) ((0 : Nat) : Int) (fun _ => (fiF, fiN, fiD)) (fun _ => (0, 0, 0, 0)) 0 (fun _ => False) arR0 arL0 arA0 arS0 leN0 leD0 grN0 grD0 arH0 (up1 stF0 0 fiF) (up1 stN0 0 fiN) (up1 stD0 0 fiD) := ⟨fun i z1 z2 => by omega, fun i z1 z2 => by
        have e0 : i = 0 := by omega
        rw [e0, up1_eq, up1_eq, up1_eq]
        exact ⟨rfl, rfl, rfl⟩, by
        rw [cntP_c (B := fun _ => False) 12 (fun s _ _ => ⟨fun ⟨i, y1, y2, _⟩ => by omega, False.elim⟩)]
        simp [cntP], fun s z1 z2 => ⟨False.elim, fun ⟨⟨i, y1, y2, _⟩, _⟩ => by omega⟩, fun s z1 ⟨i, y1, y2, _⟩ => by omega, fun i z1 z2 => by omega⟩
      have hcm := cmp_main (d := d) (many := 2 * k) (s0 := s0) (s1 := s1) (rest := rest) (handN := handN) (handD := handD) (gT := gT) (gF := gF) (alE := alE) (alM := alM) (fiF := fiF) (fiN := fiN) (fiD := fiD) (epN := epN) (epD := epD) (goH := goH) (goN := goN) (goD := goD) (plS := plS) (plP := plP) (plM := plM) (plA := plA) (plBN := plBN) (plBD := plBD) (plLN := plLN) (plLD := plLD) (plR := plR) (veW := veW) (veF := veF) (veP := veP) (vsF := vsF) (vsN := vsN) (vsD := vsD) (juM := juM) (juP := juP) (juTN := juTN) (juTD := juTD) (juO := juO) (scN := scN) (scD := scD) (noF := noF) (noN := noN) (noD := noD) (neF := neF) (neN := neN) (neD := neD) hw hO hE he hT hF hH hgN hgD (by omega) wF (2 * k) 0 (fun _ => 0) 0 (fun _ => 0) (fun _ => 0) (fun _ => (fiF, fiN, fiD)) (fun _ _ => (0, 0, 0, 0)) 0 arF0 arU0 arT0 shN0 shD0 arLU0 arGU0 0 (fun _ => False) arR0 arL0 arA0 arS0 leN0 leD0 grN0 grD0 arH0 (up1 stF0 0 fiF) (up1 stN0 0 fiN) (up1 stD0 0 fiD) (by omega) rfl (fun i z1 z2 => by omega) rfl hai0 ⟨rfl, rfl, fun i z1 z2 => by omega⟩ wF (by omega) (fun i z1 z2 => by omega) (fun i z1 z2 => by omega)
      rw [ecast] at hcm
      rcases hcm with ⟨ev', f1, arP1, arF1, arU1, arT1, shN1, shD1, arLU1, arGU1, arB1, arM1, arR1, arL1, arA1, arS1, leN1, leD1, grN1, grD1, arH1, stF1, stN1, stD1, f2, hc⟩ | ⟨f1, arP1, arF1, arU1, arT1, shN1, shD1, arLU1, arGU1, arB1, arM1, arR1, arL1, arA1, arS1, leN1, leD1, grN1, grD1, arH1, stF1, stN1, stD1, -, -, hc⟩
      · obtain ⟨m1, A1, T1, pt, S1, r1, r2, r3, r4, r5, r6, r7, r8, r9, r10, r11, r12⟩ := f2
        subst r4
        subst r5
        replace hc := Cg.deep hc (show d + 8 + 2 * k ≤ d + 14 by omega)
        have hT1 : ∀ i, 0 ≤ i → i < 2 * (k : Int) → arR1 i = T1 i := fun i z1 z2 => (r7 i z1 z2).1
        obtain ⟨plA1, plR1, plM1, w1, w2, w3, htr⟩ := c_Ar_tellRow (d := d + 13) (R := 2 * (k : Int)) (m := arB1) (actions := actions) (s0 := s0) (s1 := s1) (rest := rest) (handN := handN) (handD := handD) (gT := gT) (gF := gF) (alE := alE) (alM := alM) (fiF := fiF) (fiN := fiN) (fiD := fiD) (epN := epN) (epD := epD) (goH := goH) (goN := goN) (goD := goD) (plS := plS) (plP := plP) (plM := plM) (plA := plA) (plBN := plBN) (plBD := plBD) (plLN := plLN) (plLD := plLD) (plR := plR) (veW := veW) (veF := veF) (veP := veP) (vsF := vsF) (vsN := vsN) (vsD := vsD) (juM := juM) (juP := juP) (juTN := juTN) (juTD := juTD) (juO := juO) (scN := scN) (scD := scD) (noF := noF) (noN := noN) (noD := noD) (neF := neF) (neN := neN) (neD := neD) (arM := arM1) (arU := arU1) (arF := arF1) (arR := arR1) (arL := arL1) (arT := arT1) (arA := arA1) (arS := arS1) (leN := leN1) (leD := leD1) (grN := grN1) (grD := grD1) (arH := arH1) (arLU := arLU1) (arGU := arGU1) (shN := shN1) (shD := shD1) (stF := stF1) (stN := stN1) (stD := stD1) (by omega) (by omega) (fun i z1 z2 => by have := r7 i z1 z2; omega)
        obtain ⟨plBN1, plBD1, plLN1, plLD1, j1, j2, htt⟩ := c_Ar_tell (d := d + 13) (R := 2 * (k : Int)) (m := arB1) (actions := actions) (s0 := s0) (s1 := s1) (rest := rest) (handN := handN) (handD := handD) (gT := gT) (gF := gF) (alE := alE) (alM := alM) (fiF := fiF) (fiN := fiN) (fiD := fiD) (epN := epN) (epD := epD) (goH := goH) (goN := goN) (goD := goD) (plS := arB1) (plP := (2 * (k : Int))) (plM := plM1) (plA := plA1) (plBN := plBN) (plBD := plBD) (plLN := plLN) (plLD := plLD) (plR := plR1) (veW := veW) (veF := veF) (veP := veP) (vsF := vsF) (vsN := vsN) (vsD := vsD) (juM := juM) (juP := juP) (juTN := juTN) (juTD := juTD) (juO := juO) (scN := scN) (scD := scD) (noF := noF) (noN := noN) (noD := noD) (neF := neF) (neN := neN) (neD := neD) (arB := arB1) (arM := arM1) (arU := arU1) (arF := arF1) (arR := arR1) (arL := arL1) (arT := arT1) (arA := arA1) (arS := arS1) (leN := leN1) (leD := leD1) (grN := grN1) (grD := grD1) (arH := arH1) (arLU := arLU1) (arGU := arGU1) (shN := shN1) (shD := shD1) (stF := stF1) (stN := stN1) (stD := stD1) (by omega) (by omega) (fun i z1 z2 => by have := r7 i z1 z2; omega) (fun i j z1 z2 z3 => by rw [hT1 i z1 (by omega), hT1 j (by omega) z3]; exact r8 i j z1 z2 z3) (fun i z1 z2 z3 => by
          have y1 := r7 i z1 z2
          have y2 := r9 (arR1 i / 2) (by omega) (by omega)
          omega) r11 r12
        have hpos : ∀ p, 0 ≤ p → p < 2 * arB1 → 0 ≤ posP arR1 (2 * (k : Int)) p ∧ posP arR1 (2 * (k : Int)) p < 2 * (k : Int) ∧ arR1 (posP arR1 (2 * (k : Int)) p) = p := fun p z1 z2 => posP_ok (by
          obtain ⟨j, y1, y2, y3⟩ := inj_full (n := 2 * k) (T := T1) (fun i w1 w2 => by have := r7 i w1 (by omega); omega) (fun i j w1 w2 w3 => r8 i j w1 w2 (by omega)) p z1 (by omega)
          exact ⟨j, y1, by omega, by rw [hT1 j y1 (by omega)]; exact y3⟩)
        have hst : ∀ s, 0 ≤ s → s < arB1 → posP arR1 (2 * (k : Int)) (2 * s) = arS1 s := fun s z1 z2 => by
          obtain ⟨y1, y2, y3⟩ := hpos (2 * s) (by omega) (by omega)
          obtain ⟨-, -, -, q1, q2, q3⟩ := r9 s z1 z2
          rw [hT1 _ y1 y2] at y3
          by_cases h1 : posP arR1 (2 * (k : Int)) (2 * s) < arS1 s
          · exact absurd (by rw [y3, q3]) (r8 _ _ y1 h1 q2)
          · by_cases h2 : arS1 s < posP arR1 (2 * (k : Int)) (2 * s)
            · exact absurd (by rw [y3, q3]) (r8 _ _ q1 h2 y2)
            · omega
        refine Or.inl ⟨k, ev', Nat.le_refl _, hle, f1, fun j y1 y2 => by omega, A1, T1, pt, S1, arU1, (fun p => arT1 (posP arR1 (2 * (k : Int)) p)), arB1, 2 * (k : Int), plA1, plR1, plM1, plBN1, plBD1, plLN1, plLD1, 2 * (k : Int), arF1, arU1, arT1, shN1, shD1, arLU1, arGU1, arB1, arM1, arR1, arL1, arA1, arS1, leN1, leD1, grN1, grD1, arH1, stF1, stN1, stD1, ⟨r1, r2, r3, r6, fun s z1 z2 => ⟨(w1 s z1 z2).trans (r9 s z1 z2).1, (r9 s z1 z2).2.1, (r9 s z1 z2).2.2.1⟩, fun i z1 z2 => (w2 i z1 z2).trans (hT1 i z1 z2), fun p => (w3 p).trans (grp_c (fun i z1 z2 => (hT1 i z1 z2))), r10, fun s z1 z2 => ?_⟩, ?_⟩
        · obtain ⟨y1, y2, y3⟩ := hpos (2 * s) (by omega) (by omega)
          obtain ⟨w1, w2, w3⟩ := hpos (2 * s + 1) (by omega) (by omega)
          have e1 := (j1 _ y1 y2).1 (by omega)
          have e2 := (j1 _ w1 w2).2 (by omega)
          rw [y3, show 2 * s / 2 = s by omega] at e1
          rw [w3, show (2 * s + 1) / 2 = s by omega, ← hst s z1 z2] at e2
          exact ⟨e1.1, e1.2, e2.1, e2.2⟩
        · skip
          refine Rg.step 10 F_PJ_seek_9 rfl (fun _ => rfl) ?_
          refine Rg.step 11 F_PJ_seek_10 rfl (fun _ => rfl) ?_
          refine Rg.icgtI 73 14 F_PJ_seek_11 rfl rfl (by omega) (by omega) (fun h11 => by omega) (fun _ => ?_)
          refine Rg.step 15 F_PJ_seek_14 rfl (fun _ => rfl) ?_
          refine Rg.getf 18 F_PJ_seek_15 rfl rF_1_49 gC_2 rfl ?_
          refine Rg.step 19 F_PJ_seek_18 rfl (fun _ => rfl) ?_
          refine Rg.getf 22 F_PJ_seek_19 rfl rF_1_21 gC_2 rfl ?_
          refine Rg.getf 25 F_PJ_seek_22 rfl rF_1_75 gC_6 rfl ?_
          refine Rg.call 28 F_PJ_seek_25 rfl (one_V rM_1_218 (by decide) (by simp) rfl rfl gC_49 rfl) (Nat.le_of_ble_eq_true rfl) c_Ar_begin ?_
          refine Rg.step 29 F_PJ_seek_28 rfl (fun _ => rfl) ?_
          refine Rg.getf 32 F_PJ_seek_29 rfl rF_1_21 gC_2 rfl ?_
          refine Rg.step 33 F_PJ_seek_32 rfl (fun _ => rfl) ?_
          refine Rg.getf 36 F_PJ_seek_33 rfl rF_1_49 gC_2 rfl ?_
          refine Rg.step 37 F_PJ_seek_36 rfl (fun _ => rfl) ?_
          refine Rg.call 40 F_PJ_seek_37 rfl (one_S (by decide +kernel) rM_1_222 (by decide) (by simp) rfl rfl) (Nat.le_of_ble_eq_true rfl) hc ?_
          refine Rg.ifeqP 67 43 F_PJ_seek_40 rfl rfl (fun h40 => absurd trivial h40) (fun _ => ?_)
          refine Rg.step 44 F_PJ_seek_43 rfl (fun _ => rfl) ?_
          refine Rg.getf 47 F_PJ_seek_44 rfl rF_1_49 gC_2 rfl ?_
          refine Rg.step 48 F_PJ_seek_47 rfl (fun _ => rfl) ?_
          refine Rg.getf 51 F_PJ_seek_48 rfl rF_1_28 gC_2 rfl ?_
          refine Rg.call 54 F_PJ_seek_51 rfl (one_V rM_1_226 (by decide) (by simp) rfl rfl gC_49 rfl) (Nat.le_of_ble_eq_true rfl) htr ?_
          refine Rg.step 55 F_PJ_seek_54 rfl (fun _ => rfl) ?_
          refine Rg.getf 58 F_PJ_seek_55 rfl rF_1_49 gC_2 rfl ?_
          refine Rg.step 59 F_PJ_seek_58 rfl (fun _ => rfl) ?_
          refine Rg.getf 62 F_PJ_seek_59 rfl rF_1_28 gC_2 rfl ?_
          refine Rg.call 65 F_PJ_seek_62 rfl (one_V rM_1_209 (by decide) (by simp) rfl rfl gC_49 rfl) (Nat.le_of_ble_eq_true rfl) htt ?_
          refine Rg.step 66 F_PJ_seek_65 rfl (fun _ => rfl) ?_
          exact Rg.retI F_PJ_seek_66 rfl rfl rfl
      · have hx : ∀ j : Nat, k ≤ j → ¬ k + 1 ≤ j → findE (GoodE actions (fun S a t => fit needs needTime needOf needHow needN needD S.1 S.2.1 S.2.2 a t) (fun S a t => chAll changeTime changeOf changeHow changeN changeD t (changes a).toNat (6 * a) S) (fun S a => (lbN lastOf lastN lastD epsilonN epsilonD S.2.1 S.2.2 a, lbD lastOf lastN lastD epsilonN epsilonD S.2.1 S.2.2 a, gbN lastOf lastN lastD S.2.1 S.2.2 a, gbD lastOf lastN lastD S.2.1 S.2.2 a)) (fun S => goal wishes wants wantN wantD S.1 S.2.1 S.2.2) (fun a t b u => interf needs needTime needHow needOf lastOf changes changeTime changeHow changeOf a t b u) epsilonN epsilonD (fiF, fiN, fiD) (2 * j)) (2 * j) 0 (fun _ => 0) = none := fun j y1 y2 => by
          have e : j = k := by omega
          rw [e]; exact f1
        replace hc := Cg.deep hc (show d + 8 + 2 * k ≤ d + 14 by omega)
        rcases ih (k + 1) arP1 arF1 arU1 arT1 shN1 shD1 arLU1 arGU1 arB1 arM1 arR1 arL1 arA1 arS1 leN1 leD1 grN1 grD1 arH1 stF1 stN1 stD1 (by omega) with ⟨k1, ev', y1, y2, y3, y4, A1, T1, pt, S1, u, t, plS1, plP1, plA1, plR1, plM1, plBN1, plBD1, plLN1, plLD1, arP2, arF2, arU2, arT2, shN2, shD2, arLU2, arGU2, arB2, arM2, arR2, arL2, arA2, arS2, leN2, leD2, grN2, grD2, arH2, stF2, stN2, stD2, y5, ht⟩ | ⟨y1, arP2, arF2, arU2, arT2, shN2, shD2, arLU2, arGU2, arB2, arM2, arR2, arL2, arA2, arS2, leN2, leD2, grN2, grD2, arH2, stF2, stN2, stD2, ht⟩
        · refine Or.inl ⟨k1, ev', by omega, y2, y3, fun j w1 w2 => ?_, A1, T1, pt, S1, u, t, plS1, plP1, plA1, plR1, plM1, plBN1, plBD1, plLN1, plLD1, arP2, arF2, arU2, arT2, shN2, shD2, arLU2, arGU2, arB2, arM2, arR2, arL2, arA2, arS2, leN2, leD2, grN2, grD2, arH2, stF2, stN2, stD2, y5, ?_⟩
          · by_cases hj : k + 1 ≤ j
            · exact y4 j hj w2
            · exact hx j w1 hj
          · skip
            refine Rg.step 10 F_PJ_seek_9 rfl (fun _ => rfl) ?_
            refine Rg.step 11 F_PJ_seek_10 rfl (fun _ => rfl) ?_
            refine Rg.icgtI 73 14 F_PJ_seek_11 rfl rfl (by omega) (by omega) (fun h11 => by omega) (fun _ => ?_)
            refine Rg.step 15 F_PJ_seek_14 rfl (fun _ => rfl) ?_
            refine Rg.getf 18 F_PJ_seek_15 rfl rF_1_49 gC_2 rfl ?_
            refine Rg.step 19 F_PJ_seek_18 rfl (fun _ => rfl) ?_
            refine Rg.getf 22 F_PJ_seek_19 rfl rF_1_21 gC_2 rfl ?_
            refine Rg.getf 25 F_PJ_seek_22 rfl rF_1_75 gC_6 rfl ?_
            refine Rg.call 28 F_PJ_seek_25 rfl (one_V rM_1_218 (by decide) (by simp) rfl rfl gC_49 rfl) (Nat.le_of_ble_eq_true rfl) c_Ar_begin ?_
            refine Rg.step 29 F_PJ_seek_28 rfl (fun _ => rfl) ?_
            refine Rg.getf 32 F_PJ_seek_29 rfl rF_1_21 gC_2 rfl ?_
            refine Rg.step 33 F_PJ_seek_32 rfl (fun _ => rfl) ?_
            refine Rg.getf 36 F_PJ_seek_33 rfl rF_1_49 gC_2 rfl ?_
            refine Rg.step 37 F_PJ_seek_36 rfl (fun _ => rfl) ?_
            refine Rg.call 40 F_PJ_seek_37 rfl (one_S (by decide +kernel) rM_1_222 (by decide) (by simp) rfl rfl) (Nat.le_of_ble_eq_true rfl) hc ?_
            refine Rg.ifeqP 67 43 F_PJ_seek_40 rfl rfl (fun _ => ?_) (fun h40 => absurd h40 (fun z => z))
            refine Rg.inc 70 F_PJ_seek_67 rfl rfl (by decide) ?_
            refine Rg.step 9 F_PJ_seek_70 rfl (fun _ => rfl) ?_
            rw [show 2 * (((k + 1 : Nat)) : Int) = 2 * (k : Int) + 2 by omega] at ht
            exact Rg.weak ht (by simp [lput1, lput2, Value.category, fi0, fi1, fi2, fi3] <;> first | rfl | exact ⟨rfl, rfl⟩) (by simp [lput1, lput2, Value.category, fi0, fi1, fi2, fi3] <;> first | rfl | exact ⟨rfl, rfl⟩)
        · refine Or.inr ⟨fun j w1 w2 => ?_, arP2, arF2, arU2, arT2, shN2, shD2, arLU2, arGU2, arB2, arM2, arR2, arL2, arA2, arS2, leN2, leD2, grN2, grD2, arH2, stF2, stN2, stD2, ?_⟩
          · by_cases hj : k + 1 ≤ j
            · exact y1 j hj w2
            · exact hx j w1 hj
          · skip
            refine Rg.step 10 F_PJ_seek_9 rfl (fun _ => rfl) ?_
            refine Rg.step 11 F_PJ_seek_10 rfl (fun _ => rfl) ?_
            refine Rg.icgtI 73 14 F_PJ_seek_11 rfl rfl (by omega) (by omega) (fun h11 => by omega) (fun _ => ?_)
            refine Rg.step 15 F_PJ_seek_14 rfl (fun _ => rfl) ?_
            refine Rg.getf 18 F_PJ_seek_15 rfl rF_1_49 gC_2 rfl ?_
            refine Rg.step 19 F_PJ_seek_18 rfl (fun _ => rfl) ?_
            refine Rg.getf 22 F_PJ_seek_19 rfl rF_1_21 gC_2 rfl ?_
            refine Rg.getf 25 F_PJ_seek_22 rfl rF_1_75 gC_6 rfl ?_
            refine Rg.call 28 F_PJ_seek_25 rfl (one_V rM_1_218 (by decide) (by simp) rfl rfl gC_49 rfl) (Nat.le_of_ble_eq_true rfl) c_Ar_begin ?_
            refine Rg.step 29 F_PJ_seek_28 rfl (fun _ => rfl) ?_
            refine Rg.getf 32 F_PJ_seek_29 rfl rF_1_21 gC_2 rfl ?_
            refine Rg.step 33 F_PJ_seek_32 rfl (fun _ => rfl) ?_
            refine Rg.getf 36 F_PJ_seek_33 rfl rF_1_49 gC_2 rfl ?_
            refine Rg.step 37 F_PJ_seek_36 rfl (fun _ => rfl) ?_
            refine Rg.call 40 F_PJ_seek_37 rfl (one_S (by decide +kernel) rM_1_222 (by decide) (by simp) rfl rfl) (Nat.le_of_ble_eq_true rfl) hc ?_
            refine Rg.ifeqP 67 43 F_PJ_seek_40 rfl rfl (fun _ => ?_) (fun h40 => absurd h40 (fun z => z))
            refine Rg.inc 70 F_PJ_seek_67 rfl rfl (by decide) ?_
            refine Rg.step 9 F_PJ_seek_70 rfl (fun _ => rfl) ?_
            rw [show 2 * (((k + 1 : Nat)) : Int) = 2 * (k : Int) + 2 by omega] at ht
            exact Rg.weak ht (by simp [lput1, lput2, Value.category, fi0, fi1, fi2, fi3] <;> first | rfl | exact ⟨rfl, rfl⟩) (by simp [lput1, lput2, Value.category, fi0, fi1, fi2, fi3] <;> first | rfl | exact ⟨rfl, rfl⟩)
    · refine Or.inr ⟨fun j z1 z2 => by omega, arP0, arF0, arU0, arT0, shN0, shD0, arLU0, arGU0, arB0, arM0, arR0, arL0, arA0, arS0, leN0, leD0, grN0, grD0, arH0, stF0, stN0, stD0, ?_⟩
      refine Rg.step 10 F_PJ_seek_9 rfl (fun _ => rfl) ?_
      refine Rg.step 11 F_PJ_seek_10 rfl (fun _ => rfl) ?_
      refine Rg.icgtI 73 14 F_PJ_seek_11 rfl rfl (by omega) (by omega) (fun _ => ?_) (fun h11 => by omega)
      refine Rg.step 74 F_PJ_seek_73 rfl (fun _ => rfl) ?_
      exact Rg.retI F_PJ_seek_74 rfl rfl rfl
theorem c_PJ_seek {d : Nat} (hw : WT epsilonN epsilonD wishes wants wantN wantD actions needs needTime needOf needHow needN needD changes changeTime changeOf changeHow changeN changeD lastOf lastN lastD firstN firstD) (hO : ActsOK needs needTime needOf needHow needN needD changes changeTime changeOf changeHow changeN changeD lastOf lastN lastD rest alE actions ab) (hE : epN 0 = epsilonN ∧ epD 0 = epsilonD) (he : Int.gcd epsilonN epsilonD = 1) (hT : ∀ i, 0 ≤ i → i < 24 → (gT i ↔ i < 16 ∧ wishes i = 1)) (hF : ∀ i, 0 ≤ i → i < 24 → (gF i ↔ i < 16 ∧ wishes i = 0)) (hH : goH = wants) (hgN : goN = wantN) (hgD : goD = wantD) (wF : WN fiN fiD) {most : Int} (hmo : 0 ≤ most ∧ most ≤ 6) : (∃ (k1 : Nat) (ev' : Int → Int), 0 ≤ k1 ∧ 2 * (k1 : Int) ≤ most ∧ findE (GoodE actions (fun S a t => fit needs needTime needOf needHow needN needD S.1 S.2.1 S.2.2 a t) (fun S a t => chAll changeTime changeOf changeHow changeN changeD t (changes a).toNat (6 * a) S) (fun S a => (lbN lastOf lastN lastD epsilonN epsilonD S.2.1 S.2.2 a, lbD lastOf lastN lastD epsilonN epsilonD S.2.1 S.2.2 a, gbN lastOf lastN lastD S.2.1 S.2.2 a, gbD lastOf lastN lastD S.2.1 S.2.2 a)) (fun S => goal wishes wants wantN wantD S.1 S.2.1 S.2.2) (fun a t b u => interf needs needTime needHow needOf lastOf changes changeTime changeHow changeOf a t b u) epsilonN epsilonD (fiF, fiN, fiD) (2 * k1)) (2 * k1) 0 (fun _ => 0) = some ev' ∧ (∀ j : Nat, 0 ≤ j → j < k1 → findE (GoodE actions (fun S a t => fit needs needTime needOf needHow needN needD S.1 S.2.1 S.2.2 a t) (fun S a t => chAll changeTime changeOf changeHow changeN changeD t (changes a).toNat (6 * a) S) (fun S a => (lbN lastOf lastN lastD epsilonN epsilonD S.2.1 S.2.2 a, lbD lastOf lastN lastD epsilonN epsilonD S.2.1 S.2.2 a, gbN lastOf lastN lastD S.2.1 S.2.2 a, gbD lastOf lastN lastD S.2.1 S.2.2 a)) (fun S => goal wishes wants wantN wantD S.1 S.2.1 S.2.2) (fun a t b u => interf needs needTime needHow needOf lastOf changes changeTime changeHow changeOf a t b u) epsilonN epsilonD (fiF, fiN, fiD) (2 * j)) (2 * j) 0 (fun _ => 0) = none) ∧ ∃ (A1 T1 : Int → Int) (pt : Int) (S1 : NS) (u : Int) (t : Int → Int) (plS1 : Int) (plP1 : Int) (plA1 : Int → Int) (plR1 : Int → Int) (plM1 : Int → Prop) (plBN1 : Int → Int) (plBD1 : Int → Int) (plLN1 : Int → Int) (plLD1 : Int → Int) (arP1 : Int) (arF1 : Int) (arU1 : Int) (arT1 : Int → Int) (shN1 : Int → Int) (shD1 : Int → Int) (arLU1 : Int → Int) (arGU1 : Int → Int) (arB1 : Int) (arM1 : Int → Prop) (arR1 : Int → Int) (arL1 : Int → Int) (arA1 : Int → Int) (arS1 : Int → Int) (leN1 : Int → Int) (leD1 : Int → Int) (grN1 : Int → Int) (grD1 : Int → Int) (arH1 : Int → Prop) (stF1 : Int → Int → Prop) (stN1 : Int → Int → Int) (stD1 : Int → Int → Int), (evS actions ev' (2 * k1) 0 (0, 0, fun _ => 0, fun _ => 0) = some (plS1, plP1, A1, T1) ∧ plP1 = 2 * plS1 ∧ ArrA plS1 plP1 T1 A1 (fun S a t => fit needs needTime needOf needHow needN needD S.1 S.2.1 S.2.2 a t) (fun S a t => chAll changeTime changeOf changeHow changeN changeD t (changes a).toNat (6 * a) S) (fun S a => (lbN lastOf lastN lastD epsilonN epsilonD S.2.1 S.2.2 a, lbD lastOf lastN lastD epsilonN epsilonD S.2.1 S.2.2 a, gbN lastOf lastN lastD S.2.1 S.2.2 a, gbD lastOf lastN lastD S.2.1 S.2.2 a)) (fun S => goal wishes wants wantN wantD S.1 S.2.1 S.2.2) (fun a t b u => interf needs needTime needHow needOf lastOf changes changeTime changeHow changeOf a t b u) epsilonN epsilonD (fiF, fiN, fiD) 0 pt S1 u t ∧ (0 ≤ plS1 ∧ plS1 ≤ 3) ∧ (∀ s, 0 ≤ s → s < plS1 → plA1 s = A1 s ∧ 0 ≤ A1 s ∧ A1 s < actions) ∧ (∀ i, 0 ≤ i → i < plP1 → plR1 i = T1 i) ∧ (∀ p, plM1 p ↔ grp T1 0 plP1 p) ∧ (∀ k, 0 ≤ k → k < plP1 → RowOK T1 plS1 k) ∧ (∀ s, 0 ≤ s → s < plS1 → plBN1 s = nN (t (2 * s)) u ∧ plBD1 s = nD (t (2 * s)) u ∧ plLN1 s = nN (t (2 * s + 1) - t (2 * s)) u ∧ plLD1 s = nD (t (2 * s + 1) - t (2 * s)) u)) ∧ Cg false (d + 15) m_PJ_seek [.ref 2, .int (iI most)] (MC s0 s1 handN handD gT gF alE actions alM fiF fiN fiD epN epD goH goN goD plS plP plM plA plBN plBD plLN plLD plR veW veF veP vsF vsN vsD juM juP juTN juTD juO scN scD noF noN noD neF neN neD arP arB arM arU arF arR arL arT arA arS leN leD grN grD arH arLU arGU shN shD stF stN stD rest) (.inl (some (.int (iI (2 * (k1 : Int)))))) (MC s0 s1 handN handD gT gF alE actions alM fiF fiN fiD epN epD goH goN goD plS1 plP1 plM1 plA1 plBN1 plBD1 plLN1 plLD1 plR1 veW veF veP vsF vsN vsD juM juP juTN juTD juO scN scD noF noN noD neF neN neD arP1 arB1 arM1 arU1 arF1 arR1 arL1 arT1 arA1 arS1 leN1 leD1 grN1 grD1 arH1 arLU1 arGU1 shN1 shD1 stF1 stN1 stD1 rest)) ∨ ((∀ j : Nat, 0 ≤ j → 2 * (j : Int) ≤ most → findE (GoodE actions (fun S a t => fit needs needTime needOf needHow needN needD S.1 S.2.1 S.2.2 a t) (fun S a t => chAll changeTime changeOf changeHow changeN changeD t (changes a).toNat (6 * a) S) (fun S a => (lbN lastOf lastN lastD epsilonN epsilonD S.2.1 S.2.2 a, lbD lastOf lastN lastD epsilonN epsilonD S.2.1 S.2.2 a, gbN lastOf lastN lastD S.2.1 S.2.2 a, gbD lastOf lastN lastD S.2.1 S.2.2 a)) (fun S => goal wishes wants wantN wantD S.1 S.2.1 S.2.2) (fun a t b u => interf needs needTime needHow needOf lastOf changes changeTime changeHow changeOf a t b u) epsilonN epsilonD (fiF, fiN, fiD) (2 * j)) (2 * j) 0 (fun _ => 0) = none) ∧ ∃ (arP1 : Int) (arF1 : Int) (arU1 : Int) (arT1 : Int → Int) (shN1 : Int → Int) (shD1 : Int → Int) (arLU1 : Int → Int) (arGU1 : Int → Int) (arB1 : Int) (arM1 : Int → Prop) (arR1 : Int → Int) (arL1 : Int → Int) (arA1 : Int → Int) (arS1 : Int → Int) (leN1 : Int → Int) (leD1 : Int → Int) (grN1 : Int → Int) (grD1 : Int → Int) (arH1 : Int → Prop) (stF1 : Int → Int → Prop) (stN1 : Int → Int → Int) (stD1 : Int → Int → Int), Cg false (d + 15) m_PJ_seek [.ref 2, .int (iI most)] (MC s0 s1 handN handD gT gF alE actions alM fiF fiN fiD epN epD goH goN goD plS plP plM plA plBN plBD plLN plLD plR veW veF veP vsF vsN vsD juM juP juTN juTD juO scN scD noF noN noD neF neN neD arP arB arM arU arF arR arL arT arA arS leN leD grN grD arH arLU arGU shN shD stF stN stD rest) (.inl (some (.int (iI (-1))))) (MC s0 s1 handN handD gT gF alE actions alM fiF fiN fiD epN epD goH goN goD plS plP plM plA plBN plBD plLN plLD plR veW veF veP vsF vsN vsD juM juP juTN juTD juO scN scD noF noN noD neF neN neD arP1 arB1 arM1 arU1 arF1 arR1 arL1 arT1 arA1 arS1 leN1 leD1 grN1 grD1 arH1 arLU1 arGU1 shN1 shD1 stF1 stN1 stD1 rest)) := by
  rcases psk_loop (d := d) (n0 := (MC s0 s1 handN handD gT gF alE actions alM fiF fiN fiD epN epD goH goN goD plS plP plM plA plBN plBD plLN plLD plR veW veF veP vsF vsN vsD juM juP juTN juTD juO scN scD noF noN noD neF neN neD arP arB arM arU arF arR arL arT arA arS leN leD grN grD arH arLU arGU shN shD stF stN stD rest).length) (s0 := s0) (s1 := s1) (rest := rest) (handN := handN) (handD := handD) (gT := gT) (gF := gF) (alE := alE) (alM := alM) (fiF := fiF) (fiN := fiN) (fiD := fiD) (epN := epN) (epD := epD) (goH := goH) (goN := goN) (goD := goD) (plS := plS) (plP := plP) (plM := plM) (plA := plA) (plBN := plBN) (plBD := plBD) (plLN := plLN) (plLD := plLD) (plR := plR) (veW := veW) (veF := veF) (veP := veP) (vsF := vsF) (vsN := vsN) (vsD := vsD) (juM := juM) (juP := juP) (juTN := juTN) (juTD := juTD) (juO := juO) (scN := scN) (scD := scD) (noF := noF) (noN := noN) (noD := noD) (neF := neF) (neN := neN) (neD := neD) hw hO hE he hT hF hH hgN hgD wF hmo 4 0 arP arF arU arT shN shD arLU arGU arB arM arR arL arA arS leN leD grN grD arH stF stN stD (by omega) with ⟨k1, ev', y1, y2, y3, y4, A1, T1, pt, S1, u, t, plS1, plP1, plA1, plR1, plM1, plBN1, plBD1, plLN1, plLD1, arP1, arF1, arU1, arT1, shN1, shD1, arLU1, arGU1, arB1, arM1, arR1, arL1, arA1, arS1, leN1, leD1, grN1, grD1, arH1, stF1, stN1, stD1, y5, ht⟩ | ⟨y1, arP1, arF1, arU1, arT1, shN1, shD1, arLU1, arGU1, arB1, arM1, arR1, arL1, arA1, arS1, leN1, leD1, grN1, grD1, arH1, stF1, stN1, stD1, ht⟩
  · refine Or.inl ⟨k1, ev', y1, y2, y3, y4, A1, T1, pt, S1, u, t, plS1, plP1, plA1, plR1, plM1, plBN1, plBD1, plLN1, plLD1, arP1, arF1, arU1, arT1, shN1, shD1, arLU1, arGU1, arB1, arM1, arR1, arL1, arA1, arS1, leN1, leD1, grN1, grD1, arH1, stF1, stN1, stD1, y5, ?_⟩
    refine Cg.of (Nat.le_of_ble_eq_true rfl) ?_
    change Rg _ _ _ _ 0 [(0, .ref 2), (1, .int (iI most))] [] _ _ _
    refine Rg.step 1 F_PJ_seek_0 rfl (fun _ => rfl) ?_
    refine Rg.step 2 F_PJ_seek_1 rfl (fun _ => rfl) ?_
    refine Rg.bip 4 F_PJ_seek_2 rfl rfl ?_
    refine Rg.call 7 F_PJ_seek_4 rfl (one_S (by decide +kernel) rM_1_92 (by decide) (by simp) rfl rfl) (Nat.le_of_ble_eq_true rfl) (Cg.any (c_chk_ok (by omega) (by omega) (by omega) (by omega))) ?_
    refine Rg.step 8 F_PJ_seek_7 rfl (fun _ => rfl) ?_
    refine Rg.step 9 F_PJ_seek_8 rfl (fun _ => rfl) ?_
    exact Rg.weak ht (by simp [lput1, lput2, Value.category, fi0, fi1, fi2, fi3] <;> first | rfl | exact ⟨rfl, rfl⟩) (by simp [lput1, lput2, Value.category, fi0, fi1, fi2, fi3] <;> first | rfl | exact ⟨rfl, rfl⟩)
  · refine Or.inr ⟨y1, arP1, arF1, arU1, arT1, shN1, shD1, arLU1, arGU1, arB1, arM1, arR1, arL1, arA1, arS1, leN1, leD1, grN1, grD1, arH1, stF1, stN1, stD1, ?_⟩
    refine Cg.of (Nat.le_of_ble_eq_true rfl) ?_
    change Rg _ _ _ _ 0 [(0, .ref 2), (1, .int (iI most))] [] _ _ _
    refine Rg.step 1 F_PJ_seek_0 rfl (fun _ => rfl) ?_
    refine Rg.step 2 F_PJ_seek_1 rfl (fun _ => rfl) ?_
    refine Rg.bip 4 F_PJ_seek_2 rfl rfl ?_
    refine Rg.call 7 F_PJ_seek_4 rfl (one_S (by decide +kernel) rM_1_92 (by decide) (by simp) rfl rfl) (Nat.le_of_ble_eq_true rfl) (Cg.any (c_chk_ok (by omega) (by omega) (by omega) (by omega))) ?_
    refine Rg.step 8 F_PJ_seek_7 rfl (fun _ => rfl) ?_
    refine Rg.step 9 F_PJ_seek_8 rfl (fun _ => rfl) ?_
    exact Rg.weak ht (by simp [lput1, lput2, Value.category, fi0, fi1, fi2, fi3] <;> first | rfl | exact ⟨rfl, rfl⟩) (by simp [lput1, lput2, Value.category, fi0, fi1, fi2, fi3] <;> first | rfl | exact ⟨rfl, rfl⟩)
end R82
