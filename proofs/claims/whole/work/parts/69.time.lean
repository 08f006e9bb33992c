/-! The class: a time of the plan is looked at. -/
theorem near_cls {pN pD : Int → Int} {p q eN eD : Int} (hb : 0 < pD p) (hd : 0 < pD q) : cmpF (nN (pN p * pD q - pN q * pD p) (pD p * pD q)) (nD (pN p * pD q - pN q * pD p) (pD p * pD q)) eN eD < 0 ↔ nearP eN eD pN pD p q := by
  have hbd : 0 < pD p * pD q := Int.mul_pos hb hd
  rw [cmpF_red hbd]
  unfold nearP cmpF
  have e1 : (pN p * pD q - pN q * pD p) * eD = pN p * (pD q * eD) - pN q * eD * pD p := by
    rw [Int.sub_mul, Int.mul_assoc, Int.mul_assoc, Int.mul_assoc, Int.mul_comm (pD p) eD]
  have e2 : (pN q * eD + eN * pD q) * pD p = pN q * eD * pD p + eN * (pD p * pD q) := by
    rw [Int.add_mul, Int.mul_assoc eN, Int.mul_comm (pD q) (pD p)]
  rw [e1, e2]
  split <;> split <;> (try split) <;> (try split) <;> omega

section R69
variable {s0 s1 : AC} {rest : AM} {ab : Int → Nat}
variable {alS alM plS plP veW veF veP juP arP arB arU arF : Int}
variable {handN handD fiN fiD epN epD goH goN goD plA plBN plBD plLN plLD plR vsN vsD juTN juTD juO scN scD noN noD neN neD arR arL arT arA arS leN leD grN grD arLU arGU shN shD : Int → Int}
variable {stN stD : Int → Int → Int}
variable {stF : Int → Int → Prop}
variable {gT gF fiF plM vsF juM noF neF arM arH : Int → Prop}
variable {alE : Nat}
variable {code amountN amountD momentN momentD epsilonN epsilonD actions steps rows tried triedRows unit point judged fault faultPoint outN outD : Int}
variable {firstN firstD wishes wants wantN wantD needs needTime needOf needHow needN needD changes changeTime changeOf changeHow changeN changeD lastOf lastN lastD stepAction startN startD lengthN lengthD row triedAction triedRow times numN numD oldN oldD toldN toldD pointN pointD leastN leastD greatestN greatestD events : Int → Int}
variable {firstFacts facts oldFacts toldFacts gone now : Int → Prop}
theorem c_Ju_near {d : Nat} (hw : WT epsilonN epsilonD wishes wants wantN wantD actions needs needTime needOf needHow needN needD changes changeTime changeOf changeHow changeN changeD lastOf lastN lastD firstN firstD) (hO : ActsOK needs needTime needOf needHow needN needD changes changeTime changeOf changeHow changeN changeD lastOf lastN lastD rest alE actions ab) (hPA : ∀ s, 0 ≤ s → s < plS → 0 ≤ plA s ∧ plA s < actions) (wS : 0 ≤ plS ∧ plS ≤ 12) (hQ : ∀ p, 0 ≤ p → p < 2 * plS → 0 ≤ juTN p ∧ juTN p ≤ 100000000000 ∧ 0 < juTD p ∧ juTD p ≤ 1000000) (hE : epN 0 = epsilonN ∧ epD 0 = epsilonD) {p q : Int} (h1 : 0 ≤ p ∧ p < 2 * plS) (h2 : 0 ≤ q ∧ q < 2 * plS) : ∃ x1 y1, Cg false (d + 4) m_Judge_areTooNear [.ref 33, .ref 6, .ref 19, .int (iI p), .int (iI q)] (MC s0 s1 handN handD gT gF alE actions alM fiF fiN fiD epN epD goH goN goD plS plP plM plA plBN plBD plLN plLD plR veW veF veP vsF vsN vsD juM juP juTN juTD juO scN scD noF noN noD neF neN neD arP arB arM arU arF arR arL arT arA arS leN leD grN grD arH arLU arGU shN shD stF stN stD rest) (.inl (some (.int (bP (intP plA needs needTime needHow needOf lastOf changes changeTime changeHow changeOf p q ∧ nearP epsilonN epsilonD juTN juTD p q))))) (MC s0 s1 handN handD gT gF alE actions alM fiF fiN fiD epN epD goH goN goD plS plP plM plA plBN plBD plLN plLD plR veW veF veP vsF vsN vsD juM juP juTN juTD juO x1 y1 noF noN noD neF neN neD arP arB arM arU arF arR arL arT arA arS leN leD grN grD arH arLU arGU shN shD stF stN stD rest) := by
  obtain ⟨wE, -, -, -, wA, -, -, -, -, -, -, -, -, -, -, -, -, -, -, -, -⟩ := id hw
  have q1 := hQ p h1.1 h1.2
  have q2 := hQ q h2.1 h2.2
  have a1 := hPA (p / 2) (by omega) (by omega)
  have a2 := hPA (q / 2) (by omega) (by omega)
  have b1 := tmo_b p
  have b2 := tmo_b q
  have m1 := act_m (s0 := s0) (s1 := s1) (rest := rest) (handN := handN) (handD := handD) (gT := gT) (gF := gF) (alE := alE) (alS := actions) (alM := alM) (fiF := fiF) (fiN := fiN) (fiD := fiD) (epN := epN) (epD := epD) (goH := goH) (goN := goN) (goD := goD) (plS := plS) (plP := plP) (plM := plM) (plA := plA) (plBN := plBN) (plBD := plBD) (plLN := plLN) (plLD := plLD) (plR := plR) (veW := veW) (veF := veF) (veP := veP) (vsF := vsF) (vsN := vsN) (vsD := vsD) (juM := juM) (juP := juP) (juTN := juTN) (juTD := juTD) (juO := juO) (scN := scN) (scD := scD) (noF := noF) (noN := noN) (noD := noD) (neF := neF) (neN := neN) (neD := neD) (arP := arP) (arB := arB) (arM := arM) (arU := arU) (arF := arF) (arR := arR) (arL := arL) (arT := arT) (arA := arA) (arS := arS) (leN := leN) (leD := leD) (grN := grN) (grD := grD) (arH := arH) (arLU := arLU) (arGU := arGU) (shN := shN) (shD := shD) (stF := stF) (stN := stN) (stD := stD) hO wA a1.1 a1.2
  have m2 := act_m (s0 := s0) (s1 := s1) (rest := rest) (handN := handN) (handD := handD) (gT := gT) (gF := gF) (alE := alE) (alS := actions) (alM := alM) (fiF := fiF) (fiN := fiN) (fiD := fiD) (epN := epN) (epD := epD) (goH := goH) (goN := goN) (goD := goD) (plS := plS) (plP := plP) (plM := plM) (plA := plA) (plBN := plBN) (plBD := plBD) (plLN := plLN) (plLD := plLD) (plR := plR) (veW := veW) (veF := veF) (veP := veP) (vsF := vsF) (vsN := vsN) (vsD := vsD) (juM := juM) (juP := juP) (juTN := juTN) (juTD := juTD) (juO := juO) (scN := scN) (scD := scD) (noF := noF) (noN := noN) (noD := noD) (neF := neF) (neN := neN) (neD := neD) (arP := arP) (arB := arB) (arM := arM) (arU := arU) (arF := arF) (arR := arR) (arL := arL) (arT := arT) (arA := arA) (arS := arS) (leN := leN) (leD := leD) (grN := grN) (grD := grD) (arH := arH) (arLU := arLU) (arGU := arGU) (shN := shN) (shD := shD) (stF := stF) (stN := stN) (stD := stD) hO wA a2.1 a2.2
  have k1 := mul_bd (a := juTN p) (b := juTD q) (A := 100000000000) (B := 1000000) (by omega) (by omega)
  have k2 := mul_bd (a := juTN q) (b := juTD p) (A := 100000000000) (B := 1000000) (by omega) (by omega)
  have k3 := mul_ps (a := juTD p) (b := juTD q) (A := 1000000) (B := 1000000) (by omega) (by omega)
  have r1 : rawN 2 (juTN p) (juTD p) (juTN q) (juTD q) = juTN p * juTD q - juTN q * juTD p := by unfold rawN; simp [Int.sub_eq_add_neg, Int.neg_mul]
  have r2 : rawD 2 (juTD p) (juTD q) = juTD p * juTD q := by unfold rawD; simp
  have r3 : calN 2 (juTN p) (juTD p) (juTN q) (juTD q) = nN (juTN p * juTD q - juTN q * juTD p) (juTD p * juTD q) := by unfold calN; rw [r1, r2]; simp
  have r4 : calD 2 (juTN p) (juTD p) (juTN q) (juTD q) = nD (juTN p * juTD q - juTN q * juTD p) (juTD p * juTD q) := by unfold calD; rw [r1, r2]; simp
  have n1 := nN_bd (n := juTN p * juTD q - juTN q * juTD p) (B := 200000000000000000) k3.1 (by omega)
  have n2 := nD_pos (n := juTN p * juTD q - juTN q * juTD p) k3.1
  have nc := near_cls (pN := juTN) (pD := juTD) (p := p) (q := q) (eN := epsilonN) (eD := epsilonD) q1.2.2.1 q2.2.2.1
  have c0 := cmpF_b (nN (juTN p * juTD q - juTN q * juTD p) (juTD p * juTD q)) (nD (juTN p * juTD q - juTN q * juTD p) (juTD p * juTD q)) epsilonN epsilonD
  by_cases hI : intP plA needs needTime needHow needOf lastOf changes changeTime changeHow changeOf p q
  · have hal := Cg.toM sF_sc (c_Fr_alter (d := d + 2) (way := 2) (i := 0) (j := q) (gF_sc (s0 := s0) (s1 := s1) (rest := rest) (handN := handN) (handD := handD) (gT := gT) (gF := gF) (alE := alE) (alS := actions) (alM := alM) (fiF := fiF) (fiN := fiN) (fiD := fiD) (epN := epN) (epD := epD) (goH := goH) (goN := goN) (goD := goD) (plS := plS) (plP := plP) (plM := plM) (plA := plA) (plBN := plBN) (plBD := plBD) (plLN := plLN) (plLD := plLD) (plR := plR) (veW := veW) (veF := veF) (veP := veP) (vsF := vsF) (vsN := vsN) (vsD := vsD) (juM := juM) (juP := juP) (juTN := juTN) (juTD := juTD) (juO := juO) (scN := (up1 scN 0 (juTN p))) (scD := (up1 scD 0 (juTD p))) (noF := noF) (noN := noN) (noD := noD) (neF := neF) (neN := neN) (neD := neD) (arP := arP) (arB := arB) (arM := arM) (arU := arU) (arF := arF) (arR := arR) (arL := arL) (arT := arT) (arA := arA) (arS := arS) (leN := leN) (leD := leD) (grN := grN) (grD := grD) (arH := arH) (arLU := arLU) (arGU := arGU) (shN := shN) (shD := shD) (stF := stF) (stN := stN) (stD := stD)) gF_juT (by decide) (by decide) (by omega) (by decide) (by omega) (fun _ => by rw [up1_eq, up1_eq, r1, r2]; omega))
    rw [up1_eq, up1_eq, r3, r4, up1_up1, up1_up1] at hal
    refine ⟨(up1 scN 0 (nN (juTN p * juTD q - juTN q * juTD p) (juTD p * juTD q))), (up1 scD 0 (nD (juTN p * juTD q - juTN q * juTD p) (juTD p * juTD q))), ?_⟩
    refine Cg.of (Nat.le_of_ble_eq_true rfl) ?_
    change Rg _ _ _ _ 0 [(0, .ref 33), (1, .ref 6), (2, .ref 19), (3, .int (iI p)), (4, .int (iI q))] [] _ _ _
    refine Rg.step 1 F_Judge_areTooNear_0 rfl (fun _ => rfl) ?_
    refine Rg.step 2 F_Judge_areTooNear_1 rfl (fun _ => rfl) ?_
    refine Rg.step 3 F_Judge_areTooNear_2 rfl (fun _ => rfl) ?_
    refine Rg.call 6 F_Judge_areTooNear_3 rfl (one_S (by decide +kernel) rM_12_112 (by decide) (by simp) rfl rfl) (Nat.le_of_ble_eq_true rfl) (Cg.any (c_Ju_actionAt hO wA (by omega) a1)) ?_
    refine Rg.step 8 F_Judge_areTooNear_6 rfl (fun _ => rfl) ?_
    refine Rg.step 9 F_Judge_areTooNear_8 rfl (fun _ => rfl) ?_
    refine Rg.step 10 F_Judge_areTooNear_9 rfl (fun _ => rfl) ?_
    refine Rg.step 12 F_Judge_areTooNear_10 rfl (fun _ => rfl) ?_
    refine Rg.call 15 F_Judge_areTooNear_12 rfl (one_S (by decide +kernel) rM_12_112 (by decide) (by simp) rfl rfl) (Nat.le_of_ble_eq_true rfl) (Cg.any (c_Ju_actionAt hO wA (by omega) a2)) ?_
    refine Rg.step 17 F_Judge_areTooNear_15 rfl (fun _ => rfl) ?_
    refine Rg.step 19 F_Judge_areTooNear_17 rfl (fun _ => rfl) ?_
    refine Rg.step 20 F_Judge_areTooNear_19 rfl (fun _ => rfl) ?_
    refine Rg.call 23 F_Judge_areTooNear_20 rfl (one_S (by decide +kernel) rM_12_116 (by decide) (by simp) rfl rfl) (Nat.le_of_ble_eq_true rfl) (Cg.any (c_PJ_timeOf (by omega))) ?_
    refine Rg.step 25 F_Judge_areTooNear_23 rfl (fun _ => rfl) ?_
    refine Rg.step 27 F_Judge_areTooNear_25 rfl (fun _ => rfl) ?_
    refine Rg.call 30 F_Judge_areTooNear_27 rfl (one_S (by decide +kernel) rM_12_116 (by decide) (by simp) rfl rfl) (Nat.le_of_ble_eq_true rfl) (Cg.any (c_PJ_timeOf (by omega))) ?_
    refine Rg.call 33 F_Judge_areTooNear_30 rfl (one_V rM_12_120 (by decide) (by simp) rfl rfl (actO m1) rfl) (Nat.le_of_ble_eq_true rfl) (Cg.any (c_M_interf hw m1 a1 m2 a2 (by omega) (by omega))) ?_
    refine Rg.ifneP 38 36 F_Judge_areTooNear_33 rfl rfl (fun _ => ?_) (fun h33 => absurd hI h33)
    refine Rg.step 39 F_Judge_areTooNear_38 rfl (fun _ => rfl) ?_
    refine Rg.getf 42 F_Judge_areTooNear_39 rfl rF_12_24 gC_33 rfl ?_
    refine Rg.step 43 F_Judge_areTooNear_42 rfl (fun _ => rfl) ?_
    refine Rg.step 44 F_Judge_areTooNear_43 rfl (fun _ => rfl) ?_
    refine Rg.getf 47 F_Judge_areTooNear_44 rfl rF_12_14 gC_33 rfl ?_
    refine Rg.step 48 F_Judge_areTooNear_47 rfl (fun _ => rfl) ?_
    refine Rg.call 51 F_Judge_areTooNear_48 rfl (one_V rM_12_77 (by decide) (by simp) rfl rfl gC_38 rfl) (Nat.le_of_ble_eq_true rfl) (Cg.toM sF_sc (c_FrI_copy _ gF_sc gF_juT (by decide) (by omega) (by omega))) ?_
    refine Rg.step 52 F_Judge_areTooNear_51 rfl (fun _ => rfl) ?_
    refine Rg.getf 55 F_Judge_areTooNear_52 rfl rF_12_24 gC_33 rfl ?_
    refine Rg.step 56 F_Judge_areTooNear_55 rfl (fun _ => rfl) ?_
    refine Rg.step 57 F_Judge_areTooNear_56 rfl (fun _ => rfl) ?_
    refine Rg.step 58 F_Judge_areTooNear_57 rfl (fun _ => rfl) ?_
    refine Rg.getf 61 F_Judge_areTooNear_58 rfl rF_12_14 gC_33 rfl ?_
    refine Rg.step 63 F_Judge_areTooNear_61 rfl (fun _ => rfl) ?_
    refine Rg.call 66 F_Judge_areTooNear_63 rfl (one_V rM_12_88 (by decide) (by simp) rfl rfl gC_38 rfl) (Nat.le_of_ble_eq_true rfl) hal ?_
    refine Rg.step 67 F_Judge_areTooNear_66 rfl (fun _ => rfl) ?_
    refine Rg.getf 70 F_Judge_areTooNear_67 rfl rF_12_24 gC_33 rfl ?_
    refine Rg.step 71 F_Judge_areTooNear_70 rfl (fun _ => rfl) ?_
    refine Rg.step 72 F_Judge_areTooNear_71 rfl (fun _ => rfl) ?_
    refine Rg.getf 75 F_Judge_areTooNear_72 rfl rF_12_126 gC_6 rfl ?_
    refine Rg.step 76 F_Judge_areTooNear_75 rfl (fun _ => rfl) ?_
    refine Rg.call 79 F_Judge_areTooNear_76 rfl (one_V rM_12_59 (by decide) (by simp) rfl rfl gC_38 rfl) (Nat.le_of_ble_eq_true rfl) (Cg.any (c_FrI_order _ gF_sc gF_ep (by decide) (by decide) (by rw [up1_eq]; omega) (by rw [up1_eq]; omega) (by omega) (by omega))) ?_
    rw [up1_eq, up1_eq, hE.1, hE.2]
    refine Rg.ifgeI 86 82 F_Judge_areTooNear_79 rfl rfl (by omega) (fun h79 => ?_) (fun h79 => ?_)
    · refine Rg.step 87 F_Judge_areTooNear_86 rfl (fun _ => rfl) ?_
      exact Rg.ret0 F_Judge_areTooNear_87 rfl (fun z => absurd (nc.mpr z.2) (by omega)) rfl
    · refine Rg.step 83 F_Judge_areTooNear_82 rfl (fun _ => rfl) ?_
      refine Rg.step 87 F_Judge_areTooNear_83 rfl (fun _ => rfl) ?_
      exact Rg.ret1 F_Judge_areTooNear_87 rfl ⟨hI, nc.mp (by omega)⟩ rfl
  · refine ⟨scN, scD, ?_⟩
    refine Cg.of (Nat.le_of_ble_eq_true rfl) ?_
    change Rg _ _ _ _ 0 [(0, .ref 33), (1, .ref 6), (2, .ref 19), (3, .int (iI p)), (4, .int (iI q))] [] _ _ _
    refine Rg.step 1 F_Judge_areTooNear_0 rfl (fun _ => rfl) ?_
    refine Rg.step 2 F_Judge_areTooNear_1 rfl (fun _ => rfl) ?_
    refine Rg.step 3 F_Judge_areTooNear_2 rfl (fun _ => rfl) ?_
    refine Rg.call 6 F_Judge_areTooNear_3 rfl (one_S (by decide +kernel) rM_12_112 (by decide) (by simp) rfl rfl) (Nat.le_of_ble_eq_true rfl) (Cg.any (c_Ju_actionAt hO wA (by omega) a1)) ?_
    refine Rg.step 8 F_Judge_areTooNear_6 rfl (fun _ => rfl) ?_
    refine Rg.step 9 F_Judge_areTooNear_8 rfl (fun _ => rfl) ?_
    refine Rg.step 10 F_Judge_areTooNear_9 rfl (fun _ => rfl) ?_
    refine Rg.step 12 F_Judge_areTooNear_10 rfl (fun _ => rfl) ?_
    refine Rg.call 15 F_Judge_areTooNear_12 rfl (one_S (by decide +kernel) rM_12_112 (by decide) (by simp) rfl rfl) (Nat.le_of_ble_eq_true rfl) (Cg.any (c_Ju_actionAt hO wA (by omega) a2)) ?_
    refine Rg.step 17 F_Judge_areTooNear_15 rfl (fun _ => rfl) ?_
    refine Rg.step 19 F_Judge_areTooNear_17 rfl (fun _ => rfl) ?_
    refine Rg.step 20 F_Judge_areTooNear_19 rfl (fun _ => rfl) ?_
    refine Rg.call 23 F_Judge_areTooNear_20 rfl (one_S (by decide +kernel) rM_12_116 (by decide) (by simp) rfl rfl) (Nat.le_of_ble_eq_true rfl) (Cg.any (c_PJ_timeOf (by omega))) ?_
    refine Rg.step 25 F_Judge_areTooNear_23 rfl (fun _ => rfl) ?_
    refine Rg.step 27 F_Judge_areTooNear_25 rfl (fun _ => rfl) ?_
    refine Rg.call 30 F_Judge_areTooNear_27 rfl (one_S (by decide +kernel) rM_12_116 (by decide) (by simp) rfl rfl) (Nat.le_of_ble_eq_true rfl) (Cg.any (c_PJ_timeOf (by omega))) ?_
    refine Rg.call 33 F_Judge_areTooNear_30 rfl (one_V rM_12_120 (by decide) (by simp) rfl rfl (actO m1) rfl) (Nat.le_of_ble_eq_true rfl) (Cg.any (c_M_interf hw m1 a1 m2 a2 (by omega) (by omega))) ?_
    refine Rg.ifneP 38 36 F_Judge_areTooNear_33 rfl rfl (fun h33 => absurd h33 hI) (fun _ => ?_)
    refine Rg.step 37 F_Judge_areTooNear_36 rfl (fun _ => rfl) ?_
    exact Rg.ret0 F_Judge_areTooNear_37 rfl (fun z => hI z.1) rfl
theorem fi_none {d n0 : Nat} (hw : WT epsilonN epsilonD wishes wants wantN wantD actions needs needTime needOf needHow needN needD changes changeTime changeOf changeHow changeN changeD lastOf lastN lastD firstN firstD) (hO : ActsOK needs needTime needOf needHow needN needD changes changeTime changeOf changeHow changeN changeD lastOf lastN lastD rest alE actions ab) (hPA : ∀ s, 0 ≤ s → s < plS → 0 ≤ plA s ∧ plA s < actions) (wS : 0 ≤ plS ∧ plS ≤ 12) (hQ : ∀ p, 0 ≤ p → p < 2 * plS → 0 ≤ juTN p ∧ juTN p ≤ 100000000000 ∧ 0 < juTD p ∧ juTD p ≤ 1000000) (hE : epN 0 = epsilonN ∧ epD 0 = epsilonD) (hor : ∀ i, 0 ≤ i → i < 2 * plS → 0 ≤ juO i ∧ juO i < 2 * plS) {f to : Int} (hft : 0 ≤ f ∧ to ≤ 2 * plS) {k : Int} (hk : 0 ≤ k ∧ k < to) : ∀ (n : Nat) (j : Int) (x y : Int → Int), j + n = to → 0 ≤ j → (∀ i, j ≤ i → i < to → ¬ i = k → ¬ (intP plA needs needTime needHow needOf lastOf changes changeTime changeHow changeOf (juO k) (juO i) ∧ nearP epsilonN epsilonD juTN juTD (juO k) (juO i))) → ∃ x1 y1, ∀ o mem1, Rg false (d + 5) m_Judge_findInterference n0 64 [(5, .int (iI k)), (0, .ref 33), (1, .ref 6), (2, .ref 19), (4, .int (iI to))] [] (MC s0 s1 handN handD gT gF alE actions alM fiF fiN fiD epN epD goH goN goD plS plP plM plA plBN plBD plLN plLD plR veW veF veP vsF vsN vsD juM juP juTN juTD juO x1 y1 noF noN noD neF neN neD arP arB arM arU arF arR arL arT arA arS leN leD grN grD arH arLU arGU shN shD stF stN stD rest) o mem1 → Rg false (d + 5) m_Judge_findInterference n0 13 [(6, .int (iI j)), (5, .int (iI k)), (0, .ref 33), (1, .ref 6), (2, .ref 19), (4, .int (iI to))] [] (MC s0 s1 handN handD gT gF alE actions alM fiF fiN fiD epN epD goH goN goD plS plP plM plA plBN plBD plLN plLD plR veW veF veP vsF vsN vsD juM juP juTN juTD juO x y noF noN noD neF neN neD arP arB arM arU arF arR arL arT arA arS leN leD grN grD arH arLU arGU shN shD stF stN stD rest) o mem1 := by
  intro n
  induction n with
  | zero =>
    intro j x y hj hj2 hn
    refine ⟨x, y, fun o mem1 hg => ?_⟩
    refine Rg.step 15 F_Judge_findInterference_13 rfl (fun _ => rfl) ?_
    refine Rg.step 17 F_Judge_findInterference_15 rfl (fun _ => rfl) ?_
    refine Rg.icgeI 64 20 F_Judge_findInterference_17 rfl rfl (by omega) (by omega) (fun _ => ?_) (fun h17 => by omega)
    exact Rg.weak hg (by simp [lput1, lput2, Value.category, fi0, fi1, fi2, fi3] <;> first | rfl | exact ⟨rfl, rfl⟩) (by simp [lput1, lput2, Value.category, fi0, fi1, fi2, fi3] <;> first | rfl | exact ⟨rfl, rfl⟩)
  | succ n ih =>
    intro j x y hj hj2 hn
    have o1 := hor k hk.1 (by omega)
    have o2 := hor j hj2 (by omega)
    by_cases he : j = k
    · obtain ⟨x1, y1, ht⟩ := ih (j + 1) x y (by omega) (by omega) (fun i z1 z2 => hn i (by omega) z2)
      refine ⟨x1, y1, fun o mem1 hg => ?_⟩
      refine Rg.step 15 F_Judge_findInterference_13 rfl (fun _ => rfl) ?_
      refine Rg.step 17 F_Judge_findInterference_15 rfl (fun _ => rfl) ?_
      refine Rg.icgeI 64 20 F_Judge_findInterference_17 rfl rfl (by omega) (by omega) (fun h17 => by omega) (fun _ => ?_)
      refine Rg.step 22 F_Judge_findInterference_20 rfl (fun _ => rfl) ?_
      refine Rg.step 24 F_Judge_findInterference_22 rfl (fun _ => rfl) ?_
      refine Rg.iceqI 58 27 F_Judge_findInterference_24 rfl rfl (by omega) (by omega) (fun _ => ?_) (fun h24 => by omega)
      refine Rg.inc 61 F_Judge_findInterference_58 rfl rfl (by decide) ?_
      refine Rg.step 13 F_Judge_findInterference_61 rfl (fun _ => rfl) ?_
      exact Rg.weak (ht o mem1 hg) (by simp [lput1, lput2, Value.category, fi0, fi1, fi2, fi3] <;> first | rfl | exact ⟨rfl, rfl⟩) (by simp [lput1, lput2, Value.category, fi0, fi1, fi2, fi3] <;> first | rfl | exact ⟨rfl, rfl⟩)
    · obtain ⟨x0, y0, hc⟩ := c_Ju_near (d := d) (s0 := s0) (s1 := s1) (rest := rest) (handN := handN) (handD := handD) (gT := gT) (gF := gF) (alE := alE) (alM := alM) (fiF := fiF) (fiN := fiN) (fiD := fiD) (epN := epN) (epD := epD) (goH := goH) (goN := goN) (goD := goD) (plS := plS) (plP := plP) (plM := plM) (plA := plA) (plBN := plBN) (plBD := plBD) (plLN := plLN) (plLD := plLD) (plR := plR) (veW := veW) (veF := veF) (veP := veP) (vsF := vsF) (vsN := vsN) (vsD := vsD) (juM := juM) (juP := juP) (juTN := juTN) (juTD := juTD) (juO := juO) (scN := x) (scD := y) (noF := noF) (noN := noN) (noD := noD) (neF := neF) (neN := neN) (neD := neD) (arP := arP) (arB := arB) (arM := arM) (arU := arU) (arF := arF) (arR := arR) (arL := arL) (arT := arT) (arA := arA) (arS := arS) (leN := leN) (leD := leD) (grN := grN) (grD := grD) (arH := arH) (arLU := arLU) (arGU := arGU) (shN := shN) (shD := shD) (stF := stF) (stN := stN) (stD := stD) hw hO hPA wS hQ hE (p := juO k) (q := juO j) o1 o2
      obtain ⟨x1, y1, ht⟩ := ih (j + 1) x0 y0 (by omega) (by omega) (fun i z1 z2 => hn i (by omega) z2)
      refine ⟨x1, y1, fun o mem1 hg => ?_⟩
      refine Rg.step 15 F_Judge_findInterference_13 rfl (fun _ => rfl) ?_
      refine Rg.step 17 F_Judge_findInterference_15 rfl (fun _ => rfl) ?_
      refine Rg.icgeI 64 20 F_Judge_findInterference_17 rfl rfl (by omega) (by omega) (fun h17 => by omega) (fun _ => ?_)
      refine Rg.step 22 F_Judge_findInterference_20 rfl (fun _ => rfl) ?_
      refine Rg.step 24 F_Judge_findInterference_22 rfl (fun _ => rfl) ?_
      refine Rg.iceqI 58 27 F_Judge_findInterference_24 rfl rfl (by omega) (by omega) (fun h24 => by omega) (fun _ => ?_)
      refine Rg.step 28 F_Judge_findInterference_27 rfl (fun _ => rfl) ?_
      refine Rg.step 29 F_Judge_findInterference_28 rfl (fun _ => rfl) ?_
      refine Rg.step 30 F_Judge_findInterference_29 rfl (fun _ => rfl) ?_
      refine Rg.step 31 F_Judge_findInterference_30 rfl (fun _ => rfl) ?_
      refine Rg.getf 34 F_Judge_findInterference_31 rfl rF_12_20 gC_33 rfl ?_
      refine Rg.step 36 F_Judge_findInterference_34 rfl (fun _ => rfl) ?_
      refine Rg.ild 37 F_Judge_findInterference_36 rfl gC_37 (by omega) (by decide) ?_
      refine Rg.step 38 F_Judge_findInterference_37 rfl (fun _ => rfl) ?_
      refine Rg.getf 41 F_Judge_findInterference_38 rfl rF_12_20 gC_33 rfl ?_
      refine Rg.step 43 F_Judge_findInterference_41 rfl (fun _ => rfl) ?_
      refine Rg.ild 44 F_Judge_findInterference_43 rfl gC_37 (by omega) (by decide) ?_
      refine Rg.call 47 F_Judge_findInterference_44 rfl (one_V rM_12_108 (by decide) (by simp) rfl rfl gC_33 rfl) (Nat.le_of_ble_eq_true rfl) hc ?_
      refine Rg.ifeqP 58 50 F_Judge_findInterference_47 rfl rfl (fun _ => ?_) (fun h47 => absurd h47 (hn j (by omega) (by omega) he))
      refine Rg.inc 61 F_Judge_findInterference_58 rfl rfl (by decide) ?_
      refine Rg.step 13 F_Judge_findInterference_61 rfl (fun _ => rfl) ?_
      exact Rg.weak (ht o mem1 hg) (by simp [lput1, lput2, Value.category, fi0, fi1, fi2, fi3] <;> first | rfl | exact ⟨rfl, rfl⟩) (by simp [lput1, lput2, Value.category, fi0, fi1, fi2, fi3] <;> first | rfl | exact ⟨rfl, rfl⟩)
theorem fi_hit {d n0 : Nat} (hw : WT epsilonN epsilonD wishes wants wantN wantD actions needs needTime needOf needHow needN needD changes changeTime changeOf changeHow changeN changeD lastOf lastN lastD firstN firstD) (hO : ActsOK needs needTime needOf needHow needN needD changes changeTime changeOf changeHow changeN changeD lastOf lastN lastD rest alE actions ab) (hPA : ∀ s, 0 ≤ s → s < plS → 0 ≤ plA s ∧ plA s < actions) (wS : 0 ≤ plS ∧ plS ≤ 12) (hQ : ∀ p, 0 ≤ p → p < 2 * plS → 0 ≤ juTN p ∧ juTN p ≤ 100000000000 ∧ 0 < juTD p ∧ juTD p ≤ 1000000) (hE : epN 0 = epsilonN ∧ epD 0 = epsilonD) (hor : ∀ i, 0 ≤ i → i < 2 * plS → 0 ≤ juO i ∧ juO i < 2 * plS) {f to : Int} (hft : 0 ≤ f ∧ to ≤ 2 * plS) {k q : Int} (hk : 0 ≤ k ∧ k < to) (hq : q < to ∧ ¬ q = k) (hN : (intP plA needs needTime needHow needOf lastOf changes changeTime changeHow changeOf (juO k) (juO q) ∧ nearP epsilonN epsilonD juTN juTD (juO k) (juO q))) : ∀ (n : Nat) (j : Int) (x y : Int → Int), j + n = q → 0 ≤ j → (∀ i, j ≤ i → i < q → ¬ i = k → ¬ (intP plA needs needTime needHow needOf lastOf changes changeTime changeHow changeOf (juO k) (juO i) ∧ nearP epsilonN epsilonD juTN juTD (juO k) (juO i))) → ∃ x1 y1, Rg false (d + 5) m_Judge_findInterference n0 13 [(6, .int (iI j)), (5, .int (iI k)), (0, .ref 33), (1, .ref 6), (2, .ref 19), (4, .int (iI to))] [] (MC s0 s1 handN handD gT gF alE actions alM fiF fiN fiD epN epD goH goN goD plS plP plM plA plBN plBD plLN plLD plR veW veF veP vsF vsN vsD juM juP juTN juTD juO x y noF noN noD neF neN neD arP arB arM arU arF arR arL arT arA arS leN leD grN grD arH arLU arGU shN shD stF stN stD rest) (.inl (some (.int (iI (juO k))))) (MC s0 s1 handN handD gT gF alE actions alM fiF fiN fiD epN epD goH goN goD plS plP plM plA plBN plBD plLN plLD plR veW veF veP vsF vsN vsD juM juP juTN juTD juO x1 y1 noF noN noD neF neN neD arP arB arM arU arF arR arL arT arA arS leN leD grN grD arH arLU arGU shN shD stF stN stD rest) := by
  intro n
  induction n with
  | zero =>
    intro j x y hj hj2 hn
    have ej : j = q := by omega
    subst ej
    have o1 := hor k hk.1 (by omega)
    have o2 := hor j hj2 (by omega)
    obtain ⟨x0, y0, hc⟩ := c_Ju_near (d := d) (s0 := s0) (s1 := s1) (rest := rest) (handN := handN) (handD := handD) (gT := gT) (gF := gF) (alE := alE) (alM := alM) (fiF := fiF) (fiN := fiN) (fiD := fiD) (epN := epN) (epD := epD) (goH := goH) (goN := goN) (goD := goD) (plS := plS) (plP := plP) (plM := plM) (plA := plA) (plBN := plBN) (plBD := plBD) (plLN := plLN) (plLD := plLD) (plR := plR) (veW := veW) (veF := veF) (veP := veP) (vsF := vsF) (vsN := vsN) (vsD := vsD) (juM := juM) (juP := juP) (juTN := juTN) (juTD := juTD) (juO := juO) (scN := x) (scD := y) (noF := noF) (noN := noN) (noD := noD) (neF := neF) (neN := neN) (neD := neD) (arP := arP) (arB := arB) (arM := arM) (arU := arU) (arF := arF) (arR := arR) (arL := arL) (arT := arT) (arA := arA) (arS := arS) (leN := leN) (leD := leD) (grN := grN) (grD := grD) (arH := arH) (arLU := arLU) (arGU := arGU) (shN := shN) (shD := shD) (stF := stF) (stN := stN) (stD := stD) hw hO hPA wS hQ hE (p := juO k) (q := juO j) o1 o2
    refine ⟨x0, y0, ?_⟩
    refine Rg.step 15 F_Judge_findInterference_13 rfl (fun _ => rfl) ?_
    refine Rg.step 17 F_Judge_findInterference_15 rfl (fun _ => rfl) ?_
    refine Rg.icgeI 64 20 F_Judge_findInterference_17 rfl rfl (by omega) (by omega) (fun h17 => by omega) (fun _ => ?_)
    refine Rg.step 22 F_Judge_findInterference_20 rfl (fun _ => rfl) ?_
    refine Rg.step 24 F_Judge_findInterference_22 rfl (fun _ => rfl) ?_
    refine Rg.iceqI 58 27 F_Judge_findInterference_24 rfl rfl (by omega) (by omega) (fun h24 => absurd h24 hq.2) (fun _ => ?_)
    refine Rg.step 28 F_Judge_findInterference_27 rfl (fun _ => rfl) ?_
    refine Rg.step 29 F_Judge_findInterference_28 rfl (fun _ => rfl) ?_
    refine Rg.step 30 F_Judge_findInterference_29 rfl (fun _ => rfl) ?_
    refine Rg.step 31 F_Judge_findInterference_30 rfl (fun _ => rfl) ?_
    refine Rg.getf 34 F_Judge_findInterference_31 rfl rF_12_20 gC_33 rfl ?_
    refine Rg.step 36 F_Judge_findInterference_34 rfl (fun _ => rfl) ?_
    refine Rg.ild 37 F_Judge_findInterference_36 rfl gC_37 (by omega) (by decide) ?_
    refine Rg.step 38 F_Judge_findInterference_37 rfl (fun _ => rfl) ?_
    refine Rg.getf 41 F_Judge_findInterference_38 rfl rF_12_20 gC_33 rfl ?_
    refine Rg.step 43 F_Judge_findInterference_41 rfl (fun _ => rfl) ?_
    refine Rg.ild 44 F_Judge_findInterference_43 rfl gC_37 (by omega) (by decide) ?_
    refine Rg.call 47 F_Judge_findInterference_44 rfl (one_V rM_12_108 (by decide) (by simp) rfl rfl gC_33 rfl) (Nat.le_of_ble_eq_true rfl) hc ?_
    refine Rg.ifeqP 58 50 F_Judge_findInterference_47 rfl rfl (fun h47 => absurd hN h47) (fun _ => ?_)
    refine Rg.step 51 F_Judge_findInterference_50 rfl (fun _ => rfl) ?_
    refine Rg.getf 54 F_Judge_findInterference_51 rfl rF_12_20 gC_33 rfl ?_
    refine Rg.step 56 F_Judge_findInterference_54 rfl (fun _ => rfl) ?_
    refine Rg.ild 57 F_Judge_findInterference_56 rfl gC_37 (by omega) (by decide) ?_
    exact Rg.retI F_Judge_findInterference_57 rfl rfl rfl
  | succ n ih =>
    intro j x y hj hj2 hn
    have o1 := hor k hk.1 (by omega)
    have o2 := hor j hj2 (by omega)
    by_cases he : j = k
    · obtain ⟨x1, y1, ht⟩ := ih (j + 1) x y (by omega) (by omega) (fun i z1 z2 => hn i (by omega) z2)
      refine ⟨x1, y1, ?_⟩
      refine Rg.step 15 F_Judge_findInterference_13 rfl (fun _ => rfl) ?_
      refine Rg.step 17 F_Judge_findInterference_15 rfl (fun _ => rfl) ?_
      refine Rg.icgeI 64 20 F_Judge_findInterference_17 rfl rfl (by omega) (by omega) (fun h17 => by omega) (fun _ => ?_)
      refine Rg.step 22 F_Judge_findInterference_20 rfl (fun _ => rfl) ?_
      refine Rg.step 24 F_Judge_findInterference_22 rfl (fun _ => rfl) ?_
      refine Rg.iceqI 58 27 F_Judge_findInterference_24 rfl rfl (by omega) (by omega) (fun _ => ?_) (fun h24 => by omega)
      refine Rg.inc 61 F_Judge_findInterference_58 rfl rfl (by decide) ?_
      refine Rg.step 13 F_Judge_findInterference_61 rfl (fun _ => rfl) ?_
      exact Rg.weak ht (by simp [lput1, lput2, Value.category, fi0, fi1, fi2, fi3] <;> first | rfl | exact ⟨rfl, rfl⟩) (by simp [lput1, lput2, Value.category, fi0, fi1, fi2, fi3] <;> first | rfl | exact ⟨rfl, rfl⟩)
    · obtain ⟨x0, y0, hc⟩ := c_Ju_near (d := d) (s0 := s0) (s1 := s1) (rest := rest) (handN := handN) (handD := handD) (gT := gT) (gF := gF) (alE := alE) (alM := alM) (fiF := fiF) (fiN := fiN) (fiD := fiD) (epN := epN) (epD := epD) (goH := goH) (goN := goN) (goD := goD) (plS := plS) (plP := plP) (plM := plM) (plA := plA) (plBN := plBN) (plBD := plBD) (plLN := plLN) (plLD := plLD) (plR := plR) (veW := veW) (veF := veF) (veP := veP) (vsF := vsF) (vsN := vsN) (vsD := vsD) (juM := juM) (juP := juP) (juTN := juTN) (juTD := juTD) (juO := juO) (scN := x) (scD := y) (noF := noF) (noN := noN) (noD := noD) (neF := neF) (neN := neN) (neD := neD) (arP := arP) (arB := arB) (arM := arM) (arU := arU) (arF := arF) (arR := arR) (arL := arL) (arT := arT) (arA := arA) (arS := arS) (leN := leN) (leD := leD) (grN := grN) (grD := grD) (arH := arH) (arLU := arLU) (arGU := arGU) (shN := shN) (shD := shD) (stF := stF) (stN := stN) (stD := stD) hw hO hPA wS hQ hE (p := juO k) (q := juO j) o1 o2
      obtain ⟨x1, y1, ht⟩ := ih (j + 1) x0 y0 (by omega) (by omega) (fun i z1 z2 => hn i (by omega) z2)
      refine ⟨x1, y1, ?_⟩
      refine Rg.step 15 F_Judge_findInterference_13 rfl (fun _ => rfl) ?_
      refine Rg.step 17 F_Judge_findInterference_15 rfl (fun _ => rfl) ?_
      refine Rg.icgeI 64 20 F_Judge_findInterference_17 rfl rfl (by omega) (by omega) (fun h17 => by omega) (fun _ => ?_)
      refine Rg.step 22 F_Judge_findInterference_20 rfl (fun _ => rfl) ?_
      refine Rg.step 24 F_Judge_findInterference_22 rfl (fun _ => rfl) ?_
      refine Rg.iceqI 58 27 F_Judge_findInterference_24 rfl rfl (by omega) (by omega) (fun h24 => by omega) (fun _ => ?_)
      refine Rg.step 28 F_Judge_findInterference_27 rfl (fun _ => rfl) ?_
      refine Rg.step 29 F_Judge_findInterference_28 rfl (fun _ => rfl) ?_
      refine Rg.step 30 F_Judge_findInterference_29 rfl (fun _ => rfl) ?_
      refine Rg.step 31 F_Judge_findInterference_30 rfl (fun _ => rfl) ?_
      refine Rg.getf 34 F_Judge_findInterference_31 rfl rF_12_20 gC_33 rfl ?_
      refine Rg.step 36 F_Judge_findInterference_34 rfl (fun _ => rfl) ?_
      refine Rg.ild 37 F_Judge_findInterference_36 rfl gC_37 (by omega) (by decide) ?_
      refine Rg.step 38 F_Judge_findInterference_37 rfl (fun _ => rfl) ?_
      refine Rg.getf 41 F_Judge_findInterference_38 rfl rF_12_20 gC_33 rfl ?_
      refine Rg.step 43 F_Judge_findInterference_41 rfl (fun _ => rfl) ?_
      refine Rg.ild 44 F_Judge_findInterference_43 rfl gC_37 (by omega) (by decide) ?_
      refine Rg.call 47 F_Judge_findInterference_44 rfl (one_V rM_12_108 (by decide) (by simp) rfl rfl gC_33 rfl) (Nat.le_of_ble_eq_true rfl) hc ?_
      refine Rg.ifeqP 58 50 F_Judge_findInterference_47 rfl rfl (fun _ => ?_) (fun h47 => absurd h47 (hn j (by omega) (by omega) he))
      refine Rg.inc 61 F_Judge_findInterference_58 rfl rfl (by decide) ?_
      refine Rg.step 13 F_Judge_findInterference_61 rfl (fun _ => rfl) ?_
      exact Rg.weak ht (by simp [lput1, lput2, Value.category, fi0, fi1, fi2, fi3] <;> first | rfl | exact ⟨rfl, rfl⟩) (by simp [lput1, lput2, Value.category, fi0, fi1, fi2, fi3] <;> first | rfl | exact ⟨rfl, rfl⟩)
theorem fi_out0 {d n0 : Nat} (hw : WT epsilonN epsilonD wishes wants wantN wantD actions needs needTime needOf needHow needN needD changes changeTime changeOf changeHow changeN changeD lastOf lastN lastD firstN firstD) (hO : ActsOK needs needTime needOf needHow needN needD changes changeTime changeOf changeHow changeN changeD lastOf lastN lastD rest alE actions ab) (hPA : ∀ s, 0 ≤ s → s < plS → 0 ≤ plA s ∧ plA s < actions) (wS : 0 ≤ plS ∧ plS ≤ 12) (hQ : ∀ p, 0 ≤ p → p < 2 * plS → 0 ≤ juTN p ∧ juTN p ≤ 100000000000 ∧ 0 < juTD p ∧ juTD p ≤ 1000000) (hE : epN 0 = epsilonN ∧ epD 0 = epsilonD) (hor : ∀ i, 0 ≤ i → i < 2 * plS → 0 ≤ juO i ∧ juO i < 2 * plS) {f to : Int} (hft : 0 ≤ f ∧ to ≤ 2 * plS) : ∀ (n : Nat) (k : Int) (x y : Int → Int), k + n = to → 0 ≤ k → (∀ i, k ≤ i → i < to → ¬ (∃ j, 0 ≤ j ∧ j < to ∧ ¬ j = i ∧ (intP plA needs needTime needHow needOf lastOf changes changeTime changeHow changeOf (juO i) (juO j) ∧ nearP epsilonN epsilonD juTN juTD (juO i) (juO j)))) → ∃ x1 y1, Rg false (d + 5) m_Judge_findInterference n0 3 [(5, .int (iI k)), (0, .ref 33), (1, .ref 6), (2, .ref 19), (4, .int (iI to))] [] (MC s0 s1 handN handD gT gF alE actions alM fiF fiN fiD epN epD goH goN goD plS plP plM plA plBN plBD plLN plLD plR veW veF veP vsF vsN vsD juM juP juTN juTD juO x y noF noN noD neF neN neD arP arB arM arU arF arR arL arT arA arS leN leD grN grD arH arLU arGU shN shD stF stN stD rest) (.inl (some (.int (iI (-1))))) (MC s0 s1 handN handD gT gF alE actions alM fiF fiN fiD epN epD goH goN goD plS plP plM plA plBN plBD plLN plLD plR veW veF veP vsF vsN vsD juM juP juTN juTD juO x1 y1 noF noN noD neF neN neD arP arB arM arU arF arR arL arT arA arS leN leD grN grD arH arLU arGU shN shD stF stN stD rest) := by
  intro n
  induction n with
  | zero =>
    intro k x y hk hk2 hn
    refine ⟨x, y, ?_⟩
    refine Rg.step 5 F_Judge_findInterference_3 rfl (fun _ => rfl) ?_
    refine Rg.step 7 F_Judge_findInterference_5 rfl (fun _ => rfl) ?_
    refine Rg.icgeI 70 10 F_Judge_findInterference_7 rfl rfl (by omega) (by omega) (fun _ => ?_) (fun h7 => by omega)
    refine Rg.step 71 F_Judge_findInterference_70 rfl (fun _ => rfl) ?_
    exact Rg.retI F_Judge_findInterference_71 rfl rfl rfl
  | succ n ih =>
    intro k x y hk hk2 hn
    obtain ⟨x0, y0, h0⟩ := fi_none (d := d) (n0 := n0) (s0 := s0) (s1 := s1) (rest := rest) (handN := handN) (handD := handD) (gT := gT) (gF := gF) (alE := alE) (alM := alM) (fiF := fiF) (fiN := fiN) (fiD := fiD) (epN := epN) (epD := epD) (goH := goH) (goN := goN) (goD := goD) (plS := plS) (plP := plP) (plM := plM) (plA := plA) (plBN := plBN) (plBD := plBD) (plLN := plLN) (plLD := plLD) (plR := plR) (veW := veW) (veF := veF) (veP := veP) (vsF := vsF) (vsN := vsN) (vsD := vsD) (juM := juM) (juP := juP) (juTN := juTN) (juTD := juTD) (juO := juO) (noF := noF) (noN := noN) (noD := noD) (neF := neF) (neN := neN) (neD := neD) (arP := arP) (arB := arB) (arM := arM) (arU := arU) (arF := arF) (arR := arR) (arL := arL) (arT := arT) (arA := arA) (arS := arS) (leN := leN) (leD := leD) (grN := grN) (grD := grD) (arH := arH) (arLU := arLU) (arGU := arGU) (shN := shN) (shD := shD) (stF := stF) (stN := stN) (stD := stD) hw hO hPA wS hQ hE hor hft (k := k) (by omega) to.toNat 0 x y (by omega) (by omega) (fun i z1 z2 z3 z4 => hn k (by omega) (by omega) ⟨i, z1, z2, z3, z4⟩)
    obtain ⟨x1, y1, ht⟩ := ih (k + 1) x0 y0 (by omega) (by omega) (fun i z1 z2 => hn i (by omega) z2)
    refine ⟨x1, y1, ?_⟩
    refine Rg.step 5 F_Judge_findInterference_3 rfl (fun _ => rfl) ?_
    refine Rg.step 7 F_Judge_findInterference_5 rfl (fun _ => rfl) ?_
    refine Rg.icgeI 70 10 F_Judge_findInterference_7 rfl rfl (by omega) (by omega) (fun h7 => by omega) (fun _ => ?_)
    refine Rg.step 11 F_Judge_findInterference_10 rfl (fun _ => rfl) ?_
    refine Rg.step 13 F_Judge_findInterference_11 rfl (fun _ => rfl) ?_
    refine Rg.weak (h0 _ _ ?_) (by simp [lput1, lput2, Value.category, fi0, fi1, fi2, fi3] <;> first | rfl | exact ⟨rfl, rfl⟩) (by simp [lput1, lput2, Value.category, fi0, fi1, fi2, fi3] <;> first | rfl | exact ⟨rfl, rfl⟩)
    refine Rg.inc 67 F_Judge_findInterference_64 rfl rfl (by decide) ?_
    refine Rg.step 3 F_Judge_findInterference_67 rfl (fun _ => rfl) ?_
    exact Rg.weak ht (by simp [lput1, lput2, Value.category, fi0, fi1, fi2, fi3] <;> first | rfl | exact ⟨rfl, rfl⟩) (by simp [lput1, lput2, Value.category, fi0, fi1, fi2, fi3] <;> first | rfl | exact ⟨rfl, rfl⟩)
theorem fi_out1 {d n0 : Nat} (hw : WT epsilonN epsilonD wishes wants wantN wantD actions needs needTime needOf needHow needN needD changes changeTime changeOf changeHow changeN changeD lastOf lastN lastD firstN firstD) (hO : ActsOK needs needTime needOf needHow needN needD changes changeTime changeOf changeHow changeN changeD lastOf lastN lastD rest alE actions ab) (hPA : ∀ s, 0 ≤ s → s < plS → 0 ≤ plA s ∧ plA s < actions) (wS : 0 ≤ plS ∧ plS ≤ 12) (hQ : ∀ p, 0 ≤ p → p < 2 * plS → 0 ≤ juTN p ∧ juTN p ≤ 100000000000 ∧ 0 < juTD p ∧ juTD p ≤ 1000000) (hE : epN 0 = epsilonN ∧ epD 0 = epsilonD) (hor : ∀ i, 0 ≤ i → i < 2 * plS → 0 ≤ juO i ∧ juO i < 2 * plS) {f to : Int} (hft : 0 ≤ f ∧ to ≤ 2 * plS) {h : Int} (hh : h < to) (hB : (∃ j, 0 ≤ j ∧ j < to ∧ ¬ j = h ∧ (intP plA needs needTime needHow needOf lastOf changes changeTime changeHow changeOf (juO h) (juO j) ∧ nearP epsilonN epsilonD juTN juTD (juO h) (juO j)))) : ∀ (n : Nat) (k : Int) (x y : Int → Int), k + n = h → 0 ≤ k → (∀ i, k ≤ i → i < h → ¬ (∃ j, 0 ≤ j ∧ j < to ∧ ¬ j = i ∧ (intP plA needs needTime needHow needOf lastOf changes changeTime changeHow changeOf (juO i) (juO j) ∧ nearP epsilonN epsilonD juTN juTD (juO i) (juO j)))) → ∃ x1 y1, Rg false (d + 5) m_Judge_findInterference n0 3 [(5, .int (iI k)), (0, .ref 33), (1, .ref 6), (2, .ref 19), (4, .int (iI to))] [] (MC s0 s1 handN handD gT gF alE actions alM fiF fiN fiD epN epD goH goN goD plS plP plM plA plBN plBD plLN plLD plR veW veF veP vsF vsN vsD juM juP juTN juTD juO x y noF noN noD neF neN neD arP arB arM arU arF arR arL arT arA arS leN leD grN grD arH arLU arGU shN shD stF stN stD rest) (.inl (some (.int (iI (juO h))))) (MC s0 s1 handN handD gT gF alE actions alM fiF fiN fiD epN epD goH goN goD plS plP plM plA plBN plBD plLN plLD plR veW veF veP vsF vsN vsD juM juP juTN juTD juO x1 y1 noF noN noD neF neN neD arP arB arM arU arF arR arL arT arA arS leN leD grN grD arH arLU arGU shN shD stF stN stD rest) := by
  intro n
  induction n with
  | zero =>
    intro k x y hk hk2 hn
    have ek : k = h := by omega
    subst ek
    rcases fst_or (fun j => ¬ j = k ∧ (intP plA needs needTime needHow needOf lastOf changes changeTime changeHow changeOf (juO k) (juO j) ∧ nearP epsilonN epsilonD juTN juTD (juO k) (juO j))) to (by omega) with ⟨q, q1, q2, q3, q4⟩ | hno
    · obtain ⟨x1, y1, ht⟩ := fi_hit (d := d) (n0 := n0) (s0 := s0) (s1 := s1) (rest := rest) (handN := handN) (handD := handD) (gT := gT) (gF := gF) (alE := alE) (alM := alM) (fiF := fiF) (fiN := fiN) (fiD := fiD) (epN := epN) (epD := epD) (goH := goH) (goN := goN) (goD := goD) (plS := plS) (plP := plP) (plM := plM) (plA := plA) (plBN := plBN) (plBD := plBD) (plLN := plLN) (plLD := plLD) (plR := plR) (veW := veW) (veF := veF) (veP := veP) (vsF := vsF) (vsN := vsN) (vsD := vsD) (juM := juM) (juP := juP) (juTN := juTN) (juTD := juTD) (juO := juO) (noF := noF) (noN := noN) (noD := noD) (neF := neF) (neN := neN) (neD := neD) (arP := arP) (arB := arB) (arM := arM) (arU := arU) (arF := arF) (arR := arR) (arL := arL) (arT := arT) (arA := arA) (arS := arS) (leN := leN) (leD := leD) (grN := grN) (grD := grD) (arH := arH) (arLU := arLU) (arGU := arGU) (shN := shN) (shD := shD) (stF := stF) (stN := stN) (stD := stD) hw hO hPA wS hQ hE hor hft (k := k) (by omega) ⟨q2, q3.1⟩ q3.2 q.toNat 0 x y (by omega) (by omega) (fun i z1 z2 z3 z4 => q4 i z1 z2 ⟨z3, z4⟩)
      refine ⟨x1, y1, ?_⟩
      refine Rg.step 5 F_Judge_findInterference_3 rfl (fun _ => rfl) ?_
      refine Rg.step 7 F_Judge_findInterference_5 rfl (fun _ => rfl) ?_
      refine Rg.icgeI 70 10 F_Judge_findInterference_7 rfl rfl (by omega) (by omega) (fun h7 => by omega) (fun _ => ?_)
      refine Rg.step 11 F_Judge_findInterference_10 rfl (fun _ => rfl) ?_
      refine Rg.step 13 F_Judge_findInterference_11 rfl (fun _ => rfl) ?_
      exact Rg.weak ht (by simp [lput1, lput2, Value.category, fi0, fi1, fi2, fi3] <;> first | rfl | exact ⟨rfl, rfl⟩) (by simp [lput1, lput2, Value.category, fi0, fi1, fi2, fi3] <;> first | rfl | exact ⟨rfl, rfl⟩)
    · obtain ⟨j, j1, j2, j3, j4⟩ := hB
      exact absurd ⟨j3, j4⟩ (hno j j1 j2)
  | succ n ih =>
    intro k x y hk hk2 hn
    obtain ⟨x0, y0, h0⟩ := fi_none (d := d) (n0 := n0) (s0 := s0) (s1 := s1) (rest := rest) (handN := handN) (handD := handD) (gT := gT) (gF := gF) (alE := alE) (alM := alM) (fiF := fiF) (fiN := fiN) (fiD := fiD) (epN := epN) (epD := epD) (goH := goH) (goN := goN) (goD := goD) (plS := plS) (plP := plP) (plM := plM) (plA := plA) (plBN := plBN) (plBD := plBD) (plLN := plLN) (plLD := plLD) (plR := plR) (veW := veW) (veF := veF) (veP := veP) (vsF := vsF) (vsN := vsN) (vsD := vsD) (juM := juM) (juP := juP) (juTN := juTN) (juTD := juTD) (juO := juO) (noF := noF) (noN := noN) (noD := noD) (neF := neF) (neN := neN) (neD := neD) (arP := arP) (arB := arB) (arM := arM) (arU := arU) (arF := arF) (arR := arR) (arL := arL) (arT := arT) (arA := arA) (arS := arS) (leN := leN) (leD := leD) (grN := grN) (grD := grD) (arH := arH) (arLU := arLU) (arGU := arGU) (shN := shN) (shD := shD) (stF := stF) (stN := stN) (stD := stD) hw hO hPA wS hQ hE hor hft (k := k) (by omega) to.toNat 0 x y (by omega) (by omega) (fun i z1 z2 z3 z4 => hn k (by omega) (by omega) ⟨i, z1, z2, z3, z4⟩)
    obtain ⟨x1, y1, ht⟩ := ih (k + 1) x0 y0 (by omega) (by omega) (fun i z1 z2 => hn i (by omega) z2)
    refine ⟨x1, y1, ?_⟩
    refine Rg.step 5 F_Judge_findInterference_3 rfl (fun _ => rfl) ?_
    refine Rg.step 7 F_Judge_findInterference_5 rfl (fun _ => rfl) ?_
    refine Rg.icgeI 70 10 F_Judge_findInterference_7 rfl rfl (by omega) (by omega) (fun h7 => by omega) (fun _ => ?_)
    refine Rg.step 11 F_Judge_findInterference_10 rfl (fun _ => rfl) ?_
    refine Rg.step 13 F_Judge_findInterference_11 rfl (fun _ => rfl) ?_
    refine Rg.weak (h0 _ _ ?_) (by simp [lput1, lput2, Value.category, fi0, fi1, fi2, fi3] <;> first | rfl | exact ⟨rfl, rfl⟩) (by simp [lput1, lput2, Value.category, fi0, fi1, fi2, fi3] <;> first | rfl | exact ⟨rfl, rfl⟩)
    refine Rg.inc 67 F_Judge_findInterference_64 rfl rfl (by decide) ?_
    refine Rg.step 3 F_Judge_findInterference_67 rfl (fun _ => rfl) ?_
    exact Rg.weak ht (by simp [lput1, lput2, Value.category, fi0, fi1, fi2, fi3] <;> first | rfl | exact ⟨rfl, rfl⟩) (by simp [lput1, lput2, Value.category, fi0, fi1, fi2, fi3] <;> first | rfl | exact ⟨rfl, rfl⟩)
theorem c_Ju_interf {d : Nat} (hw : WT epsilonN epsilonD wishes wants wantN wantD actions needs needTime needOf needHow needN needD changes changeTime changeOf changeHow changeN changeD lastOf lastN lastD firstN firstD) (hO : ActsOK needs needTime needOf needHow needN needD changes changeTime changeOf changeHow changeN changeD lastOf lastN lastD rest alE actions ab) (hPA : ∀ s, 0 ≤ s → s < plS → 0 ≤ plA s ∧ plA s < actions) (wS : 0 ≤ plS ∧ plS ≤ 12) (hQ : ∀ p, 0 ≤ p → p < 2 * plS → 0 ≤ juTN p ∧ juTN p ≤ 100000000000 ∧ 0 < juTD p ∧ juTD p ≤ 1000000) (hE : epN 0 = epsilonN ∧ epD 0 = epsilonD) (hor : ∀ i, 0 ≤ i → i < 2 * plS → 0 ≤ juO i ∧ juO i < 2 * plS) {f to : Int} (hft : 0 ≤ f ∧ to ≤ 2 * plS) (hf1 : f ≤ to) : ∃ (r : Int) (x1 y1 : Int → Int), ((r = -1 ∧ ∀ i, f ≤ i → i < to → ¬ (∃ j, 0 ≤ j ∧ j < to ∧ ¬ j = i ∧ (intP plA needs needTime needHow needOf lastOf changes changeTime changeHow changeOf (juO i) (juO j) ∧ nearP epsilonN epsilonD juTN juTD (juO i) (juO j)))) ∨ (∃ h, f ≤ h ∧ h < to ∧ (∃ j, 0 ≤ j ∧ j < to ∧ ¬ j = h ∧ (intP plA needs needTime needHow needOf lastOf changes changeTime changeHow changeOf (juO h) (juO j) ∧ nearP epsilonN epsilonD juTN juTD (juO h) (juO j))) ∧ (∀ i, f ≤ i → i < h → ¬ (∃ j, 0 ≤ j ∧ j < to ∧ ¬ j = i ∧ (intP plA needs needTime needHow needOf lastOf changes changeTime changeHow changeOf (juO i) (juO j) ∧ nearP epsilonN epsilonD juTN juTD (juO i) (juO j)))) ∧ r = juO h)) ∧ Cg false (d + 5) m_Judge_findInterference [.ref 33, .ref 6, .ref 19, .int (iI f), .int (iI to)] (MC s0 s1 handN handD gT gF alE actions alM fiF fiN fiD epN epD goH goN goD plS plP plM plA plBN plBD plLN plLD plR veW veF veP vsF vsN vsD juM juP juTN juTD juO scN scD noF noN noD neF neN neD arP arB arM arU arF arR arL arT arA arS leN leD grN grD arH arLU arGU shN shD stF stN stD rest) (.inl (some (.int (iI r)))) (MC s0 s1 handN handD gT gF alE actions alM fiF fiN fiD epN epD goH goN goD plS plP plM plA plBN plBD plLN plLD plR veW veF veP vsF vsN vsD juM juP juTN juTD juO x1 y1 noF noN noD neF neN neD arP arB arM arU arF arR arL arT arA arS leN leD grN grD arH arLU arGU shN shD stF stN stD rest) := by
  rcases fst_or (fun z => (∃ j, 0 ≤ j ∧ j < to ∧ ¬ j = (z + f) ∧ (intP plA needs needTime needHow needOf lastOf changes changeTime changeHow changeOf (juO (z + f)) (juO j) ∧ nearP epsilonN epsilonD juTN juTD (juO (z + f)) (juO j)))) (to - f) (by omega) with ⟨z, z1, z2, z3, z4⟩ | hno
  · obtain ⟨x1, y1, ht⟩ := fi_out1 (d := d) (n0 := (MC s0 s1 handN handD gT gF alE actions alM fiF fiN fiD epN epD goH goN goD plS plP plM plA plBN plBD plLN plLD plR veW veF veP vsF vsN vsD juM juP juTN juTD juO scN scD noF noN noD neF neN neD arP arB arM arU arF arR arL arT arA arS leN leD grN grD arH arLU arGU shN shD stF stN stD rest).length) (s0 := s0) (s1 := s1) (rest := rest) (handN := handN) (handD := handD) (gT := gT) (gF := gF) (alE := alE) (alM := alM) (fiF := fiF) (fiN := fiN) (fiD := fiD) (epN := epN) (epD := epD) (goH := goH) (goN := goN) (goD := goD) (plS := plS) (plP := plP) (plM := plM) (plA := plA) (plBN := plBN) (plBD := plBD) (plLN := plLN) (plLD := plLD) (plR := plR) (veW := veW) (veF := veF) (veP := veP) (vsF := vsF) (vsN := vsN) (vsD := vsD) (juM := juM) (juP := juP) (juTN := juTN) (juTD := juTD) (juO := juO) (noF := noF) (noN := noN) (noD := noD) (neF := neF) (neN := neN) (neD := neD) (arP := arP) (arB := arB) (arM := arM) (arU := arU) (arF := arF) (arR := arR) (arL := arL) (arT := arT) (arA := arA) (arS := arS) (leN := leN) (leD := leD) (grN := grN) (grD := grD) (arH := arH) (arLU := arLU) (arGU := arGU) (shN := shN) (shD := shD) (stF := stF) (stN := stN) (stD := stD) hw hO hPA wS hQ hE hor hft (h := z + f) (by omega) z3 z.toNat f scN scD (by omega) (by omega) (fun i w1 w2 => by have := z4 (i - f) (by omega) (by omega); rw [show i - f + f = i by omega] at this; exact this)
    refine ⟨juO (z + f), x1, y1, Or.inr ⟨z + f, by omega, by omega, z3, fun i w1 w2 => by have := z4 (i - f) (by omega) (by omega); rw [show i - f + f = i by omega] at this; exact this, rfl⟩, ?_⟩
    refine Cg.of (Nat.le_of_ble_eq_true rfl) ?_
    change Rg _ _ _ _ 0 [(0, .ref 33), (1, .ref 6), (2, .ref 19), (3, .int (iI f)), (4, .int (iI to))] [] _ _ _
    refine Rg.step 1 F_Judge_findInterference_0 rfl (fun _ => rfl) ?_
    refine Rg.step 3 F_Judge_findInterference_1 rfl (fun _ => rfl) ?_
    exact Rg.weak ht (by simp [lput1, lput2, Value.category, fi0, fi1, fi2, fi3] <;> first | rfl | exact ⟨rfl, rfl⟩) (by simp [lput1, lput2, Value.category, fi0, fi1, fi2, fi3] <;> first | rfl | exact ⟨rfl, rfl⟩)
  · have hno2 : ∀ i, f ≤ i → i < to → ¬ (∃ j, 0 ≤ j ∧ j < to ∧ ¬ j = i ∧ (intP plA needs needTime needHow needOf lastOf changes changeTime changeHow changeOf (juO i) (juO j) ∧ nearP epsilonN epsilonD juTN juTD (juO i) (juO j))) := fun i w1 w2 => by have := hno (i - f) (by omega) (by omega); rw [show i - f + f = i by omega] at this; exact this
    obtain ⟨x1, y1, ht⟩ := fi_out0 (d := d) (n0 := (MC s0 s1 handN handD gT gF alE actions alM fiF fiN fiD epN epD goH goN goD plS plP plM plA plBN plBD plLN plLD plR veW veF veP vsF vsN vsD juM juP juTN juTD juO scN scD noF noN noD neF neN neD arP arB arM arU arF arR arL arT arA arS leN leD grN grD arH arLU arGU shN shD stF stN stD rest).length) (s0 := s0) (s1 := s1) (rest := rest) (handN := handN) (handD := handD) (gT := gT) (gF := gF) (alE := alE) (alM := alM) (fiF := fiF) (fiN := fiN) (fiD := fiD) (epN := epN) (epD := epD) (goH := goH) (goN := goN) (goD := goD) (plS := plS) (plP := plP) (plM := plM) (plA := plA) (plBN := plBN) (plBD := plBD) (plLN := plLN) (plLD := plLD) (plR := plR) (veW := veW) (veF := veF) (veP := veP) (vsF := vsF) (vsN := vsN) (vsD := vsD) (juM := juM) (juP := juP) (juTN := juTN) (juTD := juTD) (juO := juO) (noF := noF) (noN := noN) (noD := noD) (neF := neF) (neN := neN) (neD := neD) (arP := arP) (arB := arB) (arM := arM) (arU := arU) (arF := arF) (arR := arR) (arL := arL) (arT := arT) (arA := arA) (arS := arS) (leN := leN) (leD := leD) (grN := grN) (grD := grD) (arH := arH) (arLU := arLU) (arGU := arGU) (shN := shN) (shD := shD) (stF := stF) (stN := stN) (stD := stD) hw hO hPA wS hQ hE hor hft (to - f).toNat f scN scD (by omega) (by omega) hno2
    refine ⟨-1, x1, y1, Or.inl ⟨rfl, hno2⟩, ?_⟩
    refine Cg.of (Nat.le_of_ble_eq_true rfl) ?_
    change Rg _ _ _ _ 0 [(0, .ref 33), (1, .ref 6), (2, .ref 19), (3, .int (iI f)), (4, .int (iI to))] [] _ _ _
    refine Rg.step 1 F_Judge_findInterference_0 rfl (fun _ => rfl) ?_
    refine Rg.step 3 F_Judge_findInterference_1 rfl (fun _ => rfl) ?_
    exact Rg.weak ht (by simp [lput1, lput2, Value.category, fi0, fi1, fi2, fi3] <;> first | rfl | exact ⟨rfl, rfl⟩) (by simp [lput1, lput2, Value.category, fi0, fi1, fi2, fi3] <;> first | rfl | exact ⟨rfl, rfl⟩)
theorem need_0 {d n0 : Nat} (hw : WT epsilonN epsilonD wishes wants wantN wantD actions needs needTime needOf needHow needN needD changes changeTime changeOf changeHow changeN changeD lastOf lastN lastD firstN firstD) (hO : ActsOK needs needTime needOf needHow needN needD changes changeTime changeOf changeHow changeN changeD lastOf lastN lastD rest alE actions ab) (hPA : ∀ s, 0 ≤ s → s < plS → 0 ≤ plA s ∧ plA s < actions) (wS : 0 ≤ plS ∧ plS ≤ 12) (hor : ∀ i, 0 ≤ i → i < 2 * plS → 0 ≤ juO i ∧ juO i < 2 * plS) (wN : WN noN noD) {f to : Int} (hft : 0 ≤ f ∧ to ≤ 2 * plS) : ∀ (n : Nat) (k : Int), k + n = to → 0 ≤ k → (∀ i, k ≤ i → i < to → ¬ (¬ fit needs needTime needOf needHow needN needD noF noN noD (plA (juO i / 2)) (tmo (juO i)))) → Rg true (d + 4) m_Judge_findUnmetNeed n0 3 [(5, .int (iI k)), (0, .ref 33), (1, .ref 6), (2, .ref 19), (4, .int (iI to))] [] (MC s0 s1 handN handD gT gF alE actions alM fiF fiN fiD epN epD goH goN goD plS plP plM plA plBN plBD plLN plLD plR veW veF veP vsF vsN vsD juM juP juTN juTD juO scN scD noF noN noD neF neN neD arP arB arM arU arF arR arL arT arA arS leN leD grN grD arH arLU arGU shN shD stF stN stD rest) (.inl (some (.int (iI (-1))))) (MC s0 s1 handN handD gT gF alE actions alM fiF fiN fiD epN epD goH goN goD plS plP plM plA plBN plBD plLN plLD plR veW veF veP vsF vsN vsD juM juP juTN juTD juO scN scD noF noN noD neF neN neD arP arB arM arU arF arR arL arT arA arS leN leD grN grD arH arLU arGU shN shD stF stN stD rest) := by
  obtain ⟨-, -, -, -, wA, -, -, -, -, -, -, -, -, -, -, -, -, -, -, -, -⟩ := id hw
  intro n
  induction n with
  | zero =>
    intro k hk hk2 hn
    refine Rg.step 5 F_Judge_findUnmetNeed_3 rfl (fun _ => rfl) ?_
    refine Rg.step 7 F_Judge_findUnmetNeed_5 rfl (fun _ => rfl) ?_
    refine Rg.icgeI 56 10 F_Judge_findUnmetNeed_7 rfl rfl (by omega) (by omega) (fun _ => ?_) (fun h7 => by omega)
    refine Rg.step 57 F_Judge_findUnmetNeed_56 rfl (fun _ => rfl) ?_
    exact Rg.retI F_Judge_findUnmetNeed_57 rfl rfl rfl
  | succ n ih =>
    intro k hk hk2 hn
    have hk3 := hn k (by omega) (by omega)
    have o1 := hor k (by omega) (by omega)
    have a1 := hPA (juO k / 2) (by omega) (by omega)
    have b1 := tmo_b (juO k)
    have m1 := act_m (s0 := s0) (s1 := s1) (rest := rest) (handN := handN) (handD := handD) (gT := gT) (gF := gF) (alE := alE) (alS := actions) (alM := alM) (fiF := fiF) (fiN := fiN) (fiD := fiD) (epN := epN) (epD := epD) (goH := goH) (goN := goN) (goD := goD) (plS := plS) (plP := plP) (plM := plM) (plA := plA) (plBN := plBN) (plBD := plBD) (plLN := plLN) (plLD := plLD) (plR := plR) (veW := veW) (veF := veF) (veP := veP) (vsF := vsF) (vsN := vsN) (vsD := vsD) (juM := juM) (juP := juP) (juTN := juTN) (juTD := juTD) (juO := juO) (scN := scN) (scD := scD) (noF := noF) (noN := noN) (noD := noD) (neF := neF) (neN := neN) (neD := neD) (arP := arP) (arB := arB) (arM := arM) (arU := arU) (arF := arF) (arR := arR) (arL := arL) (arT := arT) (arA := arA) (arS := arS) (leN := leN) (leD := leD) (grN := grN) (grD := grD) (arH := arH) (arLU := arLU) (arGU := arGU) (shN := shN) (shD := shD) (stF := stF) (stN := stN) (stD := stD) hO wA a1.1 a1.2
    refine Rg.step 5 F_Judge_findUnmetNeed_3 rfl (fun _ => rfl) ?_
    refine Rg.step 7 F_Judge_findUnmetNeed_5 rfl (fun _ => rfl) ?_
    refine Rg.icgeI 56 10 F_Judge_findUnmetNeed_7 rfl rfl (by omega) (by omega) (fun h7 => by omega) (fun _ => ?_)
    refine Rg.step 11 F_Judge_findUnmetNeed_10 rfl (fun _ => rfl) ?_
    refine Rg.step 12 F_Judge_findUnmetNeed_11 rfl (fun _ => rfl) ?_
    refine Rg.step 13 F_Judge_findUnmetNeed_12 rfl (fun _ => rfl) ?_
    refine Rg.getf 16 F_Judge_findUnmetNeed_13 rfl rF_12_20 gC_33 rfl ?_
    refine Rg.step 18 F_Judge_findUnmetNeed_16 rfl (fun _ => rfl) ?_
    refine Rg.ild 19 F_Judge_findUnmetNeed_18 rfl gC_37 (by omega) (by decide) ?_
    refine Rg.call 22 F_Judge_findUnmetNeed_19 rfl (one_S (by decide +kernel) rM_12_112 (by decide) (by simp) rfl rfl) (Nat.le_of_ble_eq_true rfl) (Cg.any (c_Ju_actionAt hO wA (by omega) a1)) ?_
    refine Rg.step 23 F_Judge_findUnmetNeed_22 rfl (fun _ => rfl) ?_
    refine Rg.getf 26 F_Judge_findUnmetNeed_23 rfl rF_12_30 gC_33 rfl ?_
    refine Rg.step 27 F_Judge_findUnmetNeed_26 rfl (fun _ => rfl) ?_
    refine Rg.getf 30 F_Judge_findUnmetNeed_27 rfl rF_12_20 gC_33 rfl ?_
    refine Rg.step 32 F_Judge_findUnmetNeed_30 rfl (fun _ => rfl) ?_
    refine Rg.ild 33 F_Judge_findUnmetNeed_32 rfl gC_37 (by omega) (by decide) ?_
    refine Rg.call 36 F_Judge_findUnmetNeed_33 rfl (one_S (by decide +kernel) rM_12_116 (by decide) (by simp) rfl rfl) (Nat.le_of_ble_eq_true rfl) (Cg.any (c_PJ_timeOf (by omega))) ?_
    refine Rg.call 39 F_Judge_findUnmetNeed_36 rfl (one_V rM_12_129 (by decide) (by simp) rfl rfl (actO m1) rfl) (Nat.le_of_ble_eq_true rfl) (Cg.any (c_M_isMet (by have := (hO _ a1.1 a1.2).2.1; omega) hw m1 a1 gC_41 gF_no wN (by omega))) ?_
    refine Rg.ifneP 50 42 F_Judge_findUnmetNeed_39 rfl rfl (fun _ => ?_) (fun h39 => (hk3 h39).elim)
    refine Rg.inc 53 F_Judge_findUnmetNeed_50 rfl rfl (by decide) ?_
    refine Rg.step 3 F_Judge_findUnmetNeed_53 rfl (fun _ => rfl) ?_
    exact Rg.weak (ih (k + 1) (by omega) (by omega) (fun i z1 z2 => hn i (by omega) z2)) (by simp [lput1, lput2, Value.category, fi0, fi1, fi2, fi3] <;> first | rfl | exact ⟨rfl, rfl⟩) (by simp [lput1, lput2, Value.category, fi0, fi1, fi2, fi3] <;> first | rfl | exact ⟨rfl, rfl⟩)
theorem need_1 {d n0 : Nat} (hw : WT epsilonN epsilonD wishes wants wantN wantD actions needs needTime needOf needHow needN needD changes changeTime changeOf changeHow changeN changeD lastOf lastN lastD firstN firstD) (hO : ActsOK needs needTime needOf needHow needN needD changes changeTime changeOf changeHow changeN changeD lastOf lastN lastD rest alE actions ab) (hPA : ∀ s, 0 ≤ s → s < plS → 0 ≤ plA s ∧ plA s < actions) (wS : 0 ≤ plS ∧ plS ≤ 12) (hor : ∀ i, 0 ≤ i → i < 2 * plS → 0 ≤ juO i ∧ juO i < 2 * plS) (wN : WN noN noD) {f to : Int} (hft : 0 ≤ f ∧ to ≤ 2 * plS) {h : Int} (hh : h < to) (hB : (¬ fit needs needTime needOf needHow needN needD noF noN noD (plA (juO h / 2)) (tmo (juO h)))) : ∀ (n : Nat) (k : Int), k + n = h → 0 ≤ k → (∀ i, k ≤ i → i < h → ¬ (¬ fit needs needTime needOf needHow needN needD noF noN noD (plA (juO i / 2)) (tmo (juO i)))) → Rg true (d + 4) m_Judge_findUnmetNeed n0 3 [(5, .int (iI k)), (0, .ref 33), (1, .ref 6), (2, .ref 19), (4, .int (iI to))] [] (MC s0 s1 handN handD gT gF alE actions alM fiF fiN fiD epN epD goH goN goD plS plP plM plA plBN plBD plLN plLD plR veW veF veP vsF vsN vsD juM juP juTN juTD juO scN scD noF noN noD neF neN neD arP arB arM arU arF arR arL arT arA arS leN leD grN grD arH arLU arGU shN shD stF stN stD rest) (.inl (some (.int (iI (juO h))))) (MC s0 s1 handN handD gT gF alE actions alM fiF fiN fiD epN epD goH goN goD plS plP plM plA plBN plBD plLN plLD plR veW veF veP vsF vsN vsD juM juP juTN juTD juO scN scD noF noN noD neF neN neD arP arB arM arU arF arR arL arT arA arS leN leD grN grD arH arLU arGU shN shD stF stN stD rest) := by
  obtain ⟨-, -, -, -, wA, -, -, -, -, -, -, -, -, -, -, -, -, -, -, -, -⟩ := id hw
  intro n
  induction n with
  | zero =>
    intro k hk hk2 hn
    have ek : k = h := by omega
    subst ek
    have o1 := hor k (by omega) (by omega)
    have a1 := hPA (juO k / 2) (by omega) (by omega)
    have b1 := tmo_b (juO k)
    have m1 := act_m (s0 := s0) (s1 := s1) (rest := rest) (handN := handN) (handD := handD) (gT := gT) (gF := gF) (alE := alE) (alS := actions) (alM := alM) (fiF := fiF) (fiN := fiN) (fiD := fiD) (epN := epN) (epD := epD) (goH := goH) (goN := goN) (goD := goD) (plS := plS) (plP := plP) (plM := plM) (plA := plA) (plBN := plBN) (plBD := plBD) (plLN := plLN) (plLD := plLD) (plR := plR) (veW := veW) (veF := veF) (veP := veP) (vsF := vsF) (vsN := vsN) (vsD := vsD) (juM := juM) (juP := juP) (juTN := juTN) (juTD := juTD) (juO := juO) (scN := scN) (scD := scD) (noF := noF) (noN := noN) (noD := noD) (neF := neF) (neN := neN) (neD := neD) (arP := arP) (arB := arB) (arM := arM) (arU := arU) (arF := arF) (arR := arR) (arL := arL) (arT := arT) (arA := arA) (arS := arS) (leN := leN) (leD := leD) (grN := grN) (grD := grD) (arH := arH) (arLU := arLU) (arGU := arGU) (shN := shN) (shD := shD) (stF := stF) (stN := stN) (stD := stD) hO wA a1.1 a1.2
    refine Rg.step 5 F_Judge_findUnmetNeed_3 rfl (fun _ => rfl) ?_
    refine Rg.step 7 F_Judge_findUnmetNeed_5 rfl (fun _ => rfl) ?_
    refine Rg.icgeI 56 10 F_Judge_findUnmetNeed_7 rfl rfl (by omega) (by omega) (fun h7 => by omega) (fun _ => ?_)
    refine Rg.step 11 F_Judge_findUnmetNeed_10 rfl (fun _ => rfl) ?_
    refine Rg.step 12 F_Judge_findUnmetNeed_11 rfl (fun _ => rfl) ?_
    refine Rg.step 13 F_Judge_findUnmetNeed_12 rfl (fun _ => rfl) ?_
    refine Rg.getf 16 F_Judge_findUnmetNeed_13 rfl rF_12_20 gC_33 rfl ?_
    refine Rg.step 18 F_Judge_findUnmetNeed_16 rfl (fun _ => rfl) ?_
    refine Rg.ild 19 F_Judge_findUnmetNeed_18 rfl gC_37 (by omega) (by decide) ?_
    refine Rg.call 22 F_Judge_findUnmetNeed_19 rfl (one_S (by decide +kernel) rM_12_112 (by decide) (by simp) rfl rfl) (Nat.le_of_ble_eq_true rfl) (Cg.any (c_Ju_actionAt hO wA (by omega) a1)) ?_
    refine Rg.step 23 F_Judge_findUnmetNeed_22 rfl (fun _ => rfl) ?_
    refine Rg.getf 26 F_Judge_findUnmetNeed_23 rfl rF_12_30 gC_33 rfl ?_
    refine Rg.step 27 F_Judge_findUnmetNeed_26 rfl (fun _ => rfl) ?_
    refine Rg.getf 30 F_Judge_findUnmetNeed_27 rfl rF_12_20 gC_33 rfl ?_
    refine Rg.step 32 F_Judge_findUnmetNeed_30 rfl (fun _ => rfl) ?_
    refine Rg.ild 33 F_Judge_findUnmetNeed_32 rfl gC_37 (by omega) (by decide) ?_
    refine Rg.call 36 F_Judge_findUnmetNeed_33 rfl (one_S (by decide +kernel) rM_12_116 (by decide) (by simp) rfl rfl) (Nat.le_of_ble_eq_true rfl) (Cg.any (c_PJ_timeOf (by omega))) ?_
    refine Rg.call 39 F_Judge_findUnmetNeed_36 rfl (one_V rM_12_129 (by decide) (by simp) rfl rfl (actO m1) rfl) (Nat.le_of_ble_eq_true rfl) (Cg.any (c_M_isMet (by have := (hO _ a1.1 a1.2).2.1; omega) hw m1 a1 gC_41 gF_no wN (by omega))) ?_
    refine Rg.ifneP 50 42 F_Judge_findUnmetNeed_39 rfl rfl (fun h39 => absurd h39 hB) (fun _ => ?_)
    refine Rg.step 43 F_Judge_findUnmetNeed_42 rfl (fun _ => rfl) ?_
    refine Rg.getf 46 F_Judge_findUnmetNeed_43 rfl rF_12_20 gC_33 rfl ?_
    refine Rg.step 48 F_Judge_findUnmetNeed_46 rfl (fun _ => rfl) ?_
    refine Rg.ild 49 F_Judge_findUnmetNeed_48 rfl gC_37 (by omega) (by decide) ?_
    exact Rg.retI F_Judge_findUnmetNeed_49 rfl rfl rfl
  | succ n ih =>
    intro k hk hk2 hn
    have hk3 := hn k (by omega) (by omega)
    have o1 := hor k (by omega) (by omega)
    have a1 := hPA (juO k / 2) (by omega) (by omega)
    have b1 := tmo_b (juO k)
    have m1 := act_m (s0 := s0) (s1 := s1) (rest := rest) (handN := handN) (handD := handD) (gT := gT) (gF := gF) (alE := alE) (alS := actions) (alM := alM) (fiF := fiF) (fiN := fiN) (fiD := fiD) (epN := epN) (epD := epD) (goH := goH) (goN := goN) (goD := goD) (plS := plS) (plP := plP) (plM := plM) (plA := plA) (plBN := plBN) (plBD := plBD) (plLN := plLN) (plLD := plLD) (plR := plR) (veW := veW) (veF := veF) (veP := veP) (vsF := vsF) (vsN := vsN) (vsD := vsD) (juM := juM) (juP := juP) (juTN := juTN) (juTD := juTD) (juO := juO) (scN := scN) (scD := scD) (noF := noF) (noN := noN) (noD := noD) (neF := neF) (neN := neN) (neD := neD) (arP := arP) (arB := arB) (arM := arM) (arU := arU) (arF := arF) (arR := arR) (arL := arL) (arT := arT) (arA := arA) (arS := arS) (leN := leN) (leD := leD) (grN := grN) (grD := grD) (arH := arH) (arLU := arLU) (arGU := arGU) (shN := shN) (shD := shD) (stF := stF) (stN := stN) (stD := stD) hO wA a1.1 a1.2
    refine Rg.step 5 F_Judge_findUnmetNeed_3 rfl (fun _ => rfl) ?_
    refine Rg.step 7 F_Judge_findUnmetNeed_5 rfl (fun _ => rfl) ?_
    refine Rg.icgeI 56 10 F_Judge_findUnmetNeed_7 rfl rfl (by omega) (by omega) (fun h7 => by omega) (fun _ => ?_)
    refine Rg.step 11 F_Judge_findUnmetNeed_10 rfl (fun _ => rfl) ?_
    refine Rg.step 12 F_Judge_findUnmetNeed_11 rfl (fun _ => rfl) ?_
    refine Rg.step 13 F_Judge_findUnmetNeed_12 rfl (fun _ => rfl) ?_
    refine Rg.getf 16 F_Judge_findUnmetNeed_13 rfl rF_12_20 gC_33 rfl ?_
    refine Rg.step 18 F_Judge_findUnmetNeed_16 rfl (fun _ => rfl) ?_
    refine Rg.ild 19 F_Judge_findUnmetNeed_18 rfl gC_37 (by omega) (by decide) ?_
    refine Rg.call 22 F_Judge_findUnmetNeed_19 rfl (one_S (by decide +kernel) rM_12_112 (by decide) (by simp) rfl rfl) (Nat.le_of_ble_eq_true rfl) (Cg.any (c_Ju_actionAt hO wA (by omega) a1)) ?_
    refine Rg.step 23 F_Judge_findUnmetNeed_22 rfl (fun _ => rfl) ?_
    refine Rg.getf 26 F_Judge_findUnmetNeed_23 rfl rF_12_30 gC_33 rfl ?_
    refine Rg.step 27 F_Judge_findUnmetNeed_26 rfl (fun _ => rfl) ?_
    refine Rg.getf 30 F_Judge_findUnmetNeed_27 rfl rF_12_20 gC_33 rfl ?_
    refine Rg.step 32 F_Judge_findUnmetNeed_30 rfl (fun _ => rfl) ?_
    refine Rg.ild 33 F_Judge_findUnmetNeed_32 rfl gC_37 (by omega) (by decide) ?_
    refine Rg.call 36 F_Judge_findUnmetNeed_33 rfl (one_S (by decide +kernel) rM_12_116 (by decide) (by simp) rfl rfl) (Nat.le_of_ble_eq_true rfl) (Cg.any (c_PJ_timeOf (by omega))) ?_
    refine Rg.call 39 F_Judge_findUnmetNeed_36 rfl (one_V rM_12_129 (by decide) (by simp) rfl rfl (actO m1) rfl) (Nat.le_of_ble_eq_true rfl) (Cg.any (c_M_isMet (by have := (hO _ a1.1 a1.2).2.1; omega) hw m1 a1 gC_41 gF_no wN (by omega))) ?_
    refine Rg.ifneP 50 42 F_Judge_findUnmetNeed_39 rfl rfl (fun _ => ?_) (fun h39 => (hk3 h39).elim)
    refine Rg.inc 53 F_Judge_findUnmetNeed_50 rfl rfl (by decide) ?_
    refine Rg.step 3 F_Judge_findUnmetNeed_53 rfl (fun _ => rfl) ?_
    exact Rg.weak (ih (k + 1) (by omega) (by omega) (fun i z1 z2 => hn i (by omega) z2)) (by simp [lput1, lput2, Value.category, fi0, fi1, fi2, fi3] <;> first | rfl | exact ⟨rfl, rfl⟩) (by simp [lput1, lput2, Value.category, fi0, fi1, fi2, fi3] <;> first | rfl | exact ⟨rfl, rfl⟩)
theorem c_Ju_need {d : Nat} (hw : WT epsilonN epsilonD wishes wants wantN wantD actions needs needTime needOf needHow needN needD changes changeTime changeOf changeHow changeN changeD lastOf lastN lastD firstN firstD) (hO : ActsOK needs needTime needOf needHow needN needD changes changeTime changeOf changeHow changeN changeD lastOf lastN lastD rest alE actions ab) (hPA : ∀ s, 0 ≤ s → s < plS → 0 ≤ plA s ∧ plA s < actions) (wS : 0 ≤ plS ∧ plS ≤ 12) (hor : ∀ i, 0 ≤ i → i < 2 * plS → 0 ≤ juO i ∧ juO i < 2 * plS) (wN : WN noN noD) {f to : Int} (hft : 0 ≤ f ∧ to ≤ 2 * plS) (hf1 : f ≤ to) : ∃ r : Int, ((r = -1 ∧ ∀ i, f ≤ i → i < to → ¬ (¬ fit needs needTime needOf needHow needN needD noF noN noD (plA (juO i / 2)) (tmo (juO i)))) ∨ (∃ h, f ≤ h ∧ h < to ∧ (¬ fit needs needTime needOf needHow needN needD noF noN noD (plA (juO h / 2)) (tmo (juO h))) ∧ (∀ i, f ≤ i → i < h → ¬ (¬ fit needs needTime needOf needHow needN needD noF noN noD (plA (juO i / 2)) (tmo (juO i)))) ∧ r = juO h)) ∧ Cg true (d + 4) m_Judge_findUnmetNeed [.ref 33, .ref 6, .ref 19, .int (iI f), .int (iI to)] (MC s0 s1 handN handD gT gF alE actions alM fiF fiN fiD epN epD goH goN goD plS plP plM plA plBN plBD plLN plLD plR veW veF veP vsF vsN vsD juM juP juTN juTD juO scN scD noF noN noD neF neN neD arP arB arM arU arF arR arL arT arA arS leN leD grN grD arH arLU arGU shN shD stF stN stD rest) (.inl (some (.int (iI r)))) (MC s0 s1 handN handD gT gF alE actions alM fiF fiN fiD epN epD goH goN goD plS plP plM plA plBN plBD plLN plLD plR veW veF veP vsF vsN vsD juM juP juTN juTD juO scN scD noF noN noD neF neN neD arP arB arM arU arF arR arL arT arA arS leN leD grN grD arH arLU arGU shN shD stF stN stD rest) := by
  rcases fst_or (fun z => (¬ fit needs needTime needOf needHow needN needD noF noN noD (plA (juO (z + f) / 2)) (tmo (juO (z + f))))) (to - f) (by omega) with ⟨z, z1, z2, z3, z4⟩ | hno
  · have z5 : ∀ i, f ≤ i → i < z + f → ¬ (¬ fit needs needTime needOf needHow needN needD noF noN noD (plA (juO i / 2)) (tmo (juO i))) := fun i w1 w2 => by have := z4 (i - f) (by omega) (by omega); rw [show i - f + f = i by omega] at this; exact this
    refine ⟨juO (z + f), Or.inr ⟨z + f, by omega, by omega, z3, z5, rfl⟩, ?_⟩
    refine Cg.of (Nat.le_of_ble_eq_true rfl) ?_
    change Rg _ _ _ _ 0 [(0, .ref 33), (1, .ref 6), (2, .ref 19), (3, .int (iI f)), (4, .int (iI to))] [] _ _ _
    refine Rg.step 1 F_Judge_findUnmetNeed_0 rfl (fun _ => rfl) ?_
    refine Rg.step 3 F_Judge_findUnmetNeed_1 rfl (fun _ => rfl) ?_
    exact Rg.weak (need_1 hw hO hPA wS hor wN hft (h := z + f) (by omega) z3 z.toNat f (by omega) (by omega) z5) (by simp [lput1, lput2, Value.category, fi0, fi1, fi2, fi3] <;> first | rfl | exact ⟨rfl, rfl⟩) (by simp [lput1, lput2, Value.category, fi0, fi1, fi2, fi3] <;> first | rfl | exact ⟨rfl, rfl⟩)
  · have z5 : ∀ i, f ≤ i → i < to → ¬ (¬ fit needs needTime needOf needHow needN needD noF noN noD (plA (juO i / 2)) (tmo (juO i))) := fun i w1 w2 => by have := hno (i - f) (by omega) (by omega); rw [show i - f + f = i by omega] at this; exact this
    refine ⟨-1, Or.inl ⟨rfl, z5⟩, ?_⟩
    refine Cg.of (Nat.le_of_ble_eq_true rfl) ?_
    change Rg _ _ _ _ 0 [(0, .ref 33), (1, .ref 6), (2, .ref 19), (3, .int (iI f)), (4, .int (iI to))] [] _ _ _
    refine Rg.step 1 F_Judge_findUnmetNeed_0 rfl (fun _ => rfl) ?_
    refine Rg.step 3 F_Judge_findUnmetNeed_1 rfl (fun _ => rfl) ?_
    exact Rg.weak (need_0 hw hO hPA wS hor wN hft (to - f).toNat f (by omega) (by omega) z5) (by simp [lput1, lput2, Value.category, fi0, fi1, fi2, fi3] <;> first | rfl | exact ⟨rfl, rfl⟩) (by simp [lput1, lput2, Value.category, fi0, fi1, fi2, fi3] <;> first | rfl | exact ⟨rfl, rfl⟩)
end R69
