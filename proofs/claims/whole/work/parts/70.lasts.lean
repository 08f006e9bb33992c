/-! The class: durations and changes at a time. -/
section R70
variable {s0 s1 : AC} {rest : AM} {ab : Int → Nat}
variable {alS alM plS plP veW veF veP juP arP arB arU arF : Int}
variable {handN handD fiN fiD epN epD goH goN goD plA plBN plBD plLN plLD plR vsN vsD juTN juTD juO scN scD noN noD neN neD arR arL arT arA arS leN leD grN grD arLU arGU shN shD : Int → Int}
variable {stN stD : Int → Int → Int}
variable {stF : Int → Int → Prop}
variable {gT gF fiF plM vsF juM noF neF arM arH : Int → Prop}
variable {alE : Nat}
variable {code amountN amountD momentN momentD epsilonN epsilonD actions steps rows tried triedRows unit point judged fault faultPoint outN outD : Int}
variable {firstN firstD wishes wants wantN wantD needs needTime needOf needHow needN needD changes changeTime changeOf changeHow changeN changeD lastOf lastN lastD stepAction startN startD lengthN lengthD row triedAction triedRow times numN numD oldN oldD toldN toldD pointN pointD leastN leastD greatestN greatestD events : Int → Int}
variable {firstFacts facts oldFacts toldFacts gone now : Int → Prop}
theorem durc_bd (hw : WT epsilonN epsilonD wishes wants wantN wantD actions needs needTime needOf needHow needN needD changes changeTime changeOf changeHow changeN changeD lastOf lastN lastD firstN firstD) (wN : WN noN noD) {a w : Int} (hw2 : w = 0 ∨ w = 1) (ha : 0 ≤ a ∧ a < actions) (h3 : ¬ lastOf (2 * a + w) = -2) : -100000000000000 ≤ durP noN lastOf lastN (2 * a + w) ∧ durP noN lastOf lastN (2 * a + w) ≤ 100000000000000 ∧ 0 < durP noD lastOf lastD (2 * a + w) ∧ durP noD lastOf lastD (2 * a + w) ≤ 1000000000000 := by
  obtain ⟨-, -, -, -, wA, -, -, -, -, -, -, -, -, -, -, -, -, wL, wLN, wLD, -⟩ := id hw
  have c1 := wL (2 * a + w)
  have c2 := wLN (2 * a + w)
  have c3 := wLD (2 * a + w) (by omega) (by omega) h3
  have c4 := wN (lastOf (2 * a + w))
  have m1 := mul_bd (a := noN (lastOf (2 * a + w))) (b := lastN (2 * a + w)) (A := 1000000000) (B := 100000) (by omega) (by omega)
  have m2 := mul_ps (a := noD (lastOf (2 * a + w))) (b := lastD (2 * a + w)) (A := 1000000000) (B := 1000) (by omega) (by omega)
  unfold durP
  split <;> omega
theorem c_Ju_durRight {d : Nat} (hw : WT epsilonN epsilonD wishes wants wantN wantD actions needs needTime needOf needHow needN needD changes changeTime changeOf changeHow changeN changeD lastOf lastN lastD firstN firstD) (hO : ActsOK needs needTime needOf needHow needN needD changes changeTime changeOf changeHow changeN changeD lastOf lastN lastD rest alE actions ab) (hPA : ∀ s, 0 ≤ s → s < plS → 0 ≤ plA s ∧ plA s < actions) (wS : 0 ≤ plS ∧ plS ≤ 12) (wN : WN noN noD) {s : Int} (h1 : 0 ≤ s ∧ s < plS) (wL2 : 0 < plLN s ∧ plLN s ≤ 100000000000 ∧ 0 < plLD s ∧ plLD s ≤ 1000000) : ∃ x1 y1, Cg false (d + 4) m_Judge_isDurationRight [.ref 33, .ref 6, .ref 19, .int (iI s)] (MC s0 s1 handN handD gT gF alE actions alM fiF fiN fiD epN epD goH goN goD plS plP plM plA plBN plBD plLN plLD plR veW veF veP vsF vsN vsD juM juP juTN juTD juO scN scD noF noN noD neF neN neD arP arB arM arU arF arR arL arT arA arS leN leD grN grD arH arLU arGU shN shD stF stN stD rest) (.inl (some (.int (bP (lastsOK lastOf lastN lastD noN noD (plA s) (plLN s) (plLD s)))))) (MC s0 s1 handN handD gT gF alE actions alM fiF fiN fiD epN epD goH goN goD plS plP plM plA plBN plBD plLN plLD plR veW veF veP vsF vsN vsD juM juP juTN juTD juO x1 y1 noF noN noD neF neN neD arP arB arM arU arF arR arL arT arA arS leN leD grN grD arH arLU arGU shN shD stF stN stD rest) := by
  obtain ⟨-, -, -, -, wA, -, -, -, -, -, -, -, -, -, -, -, -, -, -, -, -⟩ := id hw
  have a1 := hPA s h1.1 h1.2
  have es : 2 * s / 2 = s := by omega
  have m1 := act_m (s0 := s0) (s1 := s1) (rest := rest) (handN := handN) (handD := handD) (gT := gT) (gF := gF) (alE := alE) (alS := actions) (alM := alM) (fiF := fiF) (fiN := fiN) (fiD := fiD) (epN := epN) (epD := epD) (goH := goH) (goN := goN) (goD := goD) (plS := plS) (plP := plP) (plM := plM) (plA := plA) (plBN := plBN) (plBD := plBD) (plLN := plLN) (plLD := plLD) (plR := plR) (veW := veW) (veF := veF) (veP := veP) (vsF := vsF) (vsN := vsN) (vsD := vsD) (juM := juM) (juP := juP) (juTN := juTN) (juTD := juTD) (juO := juO) (scN := scN) (scD := scD) (noF := noF) (noN := noN) (noD := noD) (neF := neF) (neN := neN) (neD := neD) (arP := arP) (arB := arB) (arM := arM) (arU := arU) (arF := arF) (arR := arR) (arL := arL) (arT := arT) (arA := arA) (arS := arS) (leN := leN) (leD := leD) (grN := grN) (grD := grD) (arH := arH) (arLU := arLU) (arGU := arGU) (shN := shN) (shD := shD) (stF := stF) (stN := stN) (stD := stD) hO wA a1.1 a1.2
  have b1 : 219 ≤ ab (plA s) := (hO _ a1.1 a1.2).2.1
  by_cases d0 : lastOf (2 * plA s + 0) = -2
  · skip
    by_cases d1 : lastOf (2 * plA s + 1) = -2
    · refine ⟨scN, scD, ?_⟩
      refine Cg.of (Nat.le_of_ble_eq_true rfl) ?_
      change Rg _ _ _ _ 0 [(0, .ref 33), (1, .ref 6), (2, .ref 19), (3, .int (iI s))] [] _ _ _
      refine Rg.step 1 F_Judge_isDurationRight_0 rfl (fun _ => rfl) ?_
      refine Rg.step 2 F_Judge_isDurationRight_1 rfl (fun _ => rfl) ?_
      refine Rg.step 3 F_Judge_isDurationRight_2 rfl (fun _ => rfl) ?_
      refine Rg.step 4 F_Judge_isDurationRight_3 rfl (fun _ => rfl) ?_
      refine Rg.mulI 5 F_Judge_isDurationRight_4 rfl ?_
      refine Rg.call 8 F_Judge_isDurationRight_5 rfl (one_S (by decide +kernel) rM_12_112 (by decide) (by simp) rfl rfl) (Nat.le_of_ble_eq_true rfl) (Cg.any (c_Ju_actionAt hO wA (by omega) (by rw [es]; exact a1))) ?_
      rw [es]
      refine Rg.step 10 F_Judge_isDurationRight_8 rfl (fun _ => rfl) ?_
      refine Rg.step 12 F_Judge_isDurationRight_10 rfl (fun _ => rfl) ?_
      refine Rg.step 13 F_Judge_isDurationRight_12 rfl (fun _ => rfl) ?_
      refine Rg.step 14 F_Judge_isDurationRight_13 rfl (fun _ => rfl) ?_
      refine Rg.getf 17 F_Judge_isDurationRight_14 rfl rF_12_30 gC_33 rfl ?_
      refine Rg.step 18 F_Judge_isDurationRight_17 rfl (fun _ => rfl) ?_
      refine Rg.getf 21 F_Judge_isDurationRight_18 rfl rF_12_24 gC_33 rfl ?_
      refine Rg.step 22 F_Judge_isDurationRight_21 rfl (fun _ => rfl) ?_
      refine Rg.call 25 F_Judge_isDurationRight_22 rfl (one_V rM_12_137 (by decide) (by simp) rfl rfl (actO m1) rfl) (Nat.le_of_ble_eq_true rfl) (Cg.any (c_M_wb_no (w := 0) (by omega) hw m1 a1 (by omega) d0)) ?_
      refine Rg.ifeqP 46 28 F_Judge_isDurationRight_25 rfl rfl (fun _ => ?_) (fun h25 => absurd h25 (fun z => z))
      refine Rg.step 48 F_Judge_isDurationRight_46 rfl (fun _ => rfl) ?_
      refine Rg.step 49 F_Judge_isDurationRight_48 rfl (fun _ => rfl) ?_
      refine Rg.step 50 F_Judge_isDurationRight_49 rfl (fun _ => rfl) ?_
      refine Rg.getf 53 F_Judge_isDurationRight_50 rfl rF_12_30 gC_33 rfl ?_
      refine Rg.step 54 F_Judge_isDurationRight_53 rfl (fun _ => rfl) ?_
      refine Rg.getf 57 F_Judge_isDurationRight_54 rfl rF_12_24 gC_33 rfl ?_
      refine Rg.step 58 F_Judge_isDurationRight_57 rfl (fun _ => rfl) ?_
      refine Rg.call 61 F_Judge_isDurationRight_58 rfl (one_V rM_12_137 (by decide) (by simp) rfl rfl (actO m1) rfl) (Nat.le_of_ble_eq_true rfl) (Cg.any (c_M_wb_no (w := 1) (by omega) hw m1 a1 (by omega) d1)) ?_
      refine Rg.ifeqP 80 64 F_Judge_isDurationRight_61 rfl rfl (fun _ => ?_) (fun h61 => absurd h61 (fun z => z))
      refine Rg.step 81 F_Judge_isDurationRight_80 rfl (fun _ => rfl) ?_
      refine Rg.step 85 F_Judge_isDurationRight_81 rfl (fun _ => rfl) ?_
      exact Rg.ret1 F_Judge_isDurationRight_85 rfl ⟨(fun z => absurd d0 z), fun z => absurd d1 z⟩ rfl
    · refine ⟨(up1 scN 0 (nN (durP noN lastOf lastN (2 * plA s + 1)) (durP noD lastOf lastD (2 * plA s + 1)))), (up1 scD 0 (nD (durP noN lastOf lastN (2 * plA s + 1)) (durP noD lastOf lastD (2 * plA s + 1)))), ?_⟩
      have q1 := durc_bd hw wN (w := 1) (by omega) a1 d1
      have n1 := nN_bd (B := 100000000000000) q1.2.2.1 ⟨q1.1, q1.2.1⟩
      have p1 := nD_pos (n := (durP noN lastOf lastN (2 * plA s + 1))) q1.2.2.1
      have e1 := cmpF_red2 (m := plLN s) (e := plLD s) (n := (durP noN lastOf lastN (2 * plA s + 1))) q1.2.2.1
      have f1 := cmpF_b (plLN s) (plLD s) (durP noN lastOf lastN (2 * plA s + 1)) (durP noD lastOf lastD (2 * plA s + 1))
      refine Cg.of (Nat.le_of_ble_eq_true rfl) ?_
      change Rg _ _ _ _ 0 [(0, .ref 33), (1, .ref 6), (2, .ref 19), (3, .int (iI s))] [] _ _ _
      refine Rg.step 1 F_Judge_isDurationRight_0 rfl (fun _ => rfl) ?_
      refine Rg.step 2 F_Judge_isDurationRight_1 rfl (fun _ => rfl) ?_
      refine Rg.step 3 F_Judge_isDurationRight_2 rfl (fun _ => rfl) ?_
      refine Rg.step 4 F_Judge_isDurationRight_3 rfl (fun _ => rfl) ?_
      refine Rg.mulI 5 F_Judge_isDurationRight_4 rfl ?_
      refine Rg.call 8 F_Judge_isDurationRight_5 rfl (one_S (by decide +kernel) rM_12_112 (by decide) (by simp) rfl rfl) (Nat.le_of_ble_eq_true rfl) (Cg.any (c_Ju_actionAt hO wA (by omega) (by rw [es]; exact a1))) ?_
      rw [es]
      refine Rg.step 10 F_Judge_isDurationRight_8 rfl (fun _ => rfl) ?_
      refine Rg.step 12 F_Judge_isDurationRight_10 rfl (fun _ => rfl) ?_
      refine Rg.step 13 F_Judge_isDurationRight_12 rfl (fun _ => rfl) ?_
      refine Rg.step 14 F_Judge_isDurationRight_13 rfl (fun _ => rfl) ?_
      refine Rg.getf 17 F_Judge_isDurationRight_14 rfl rF_12_30 gC_33 rfl ?_
      refine Rg.step 18 F_Judge_isDurationRight_17 rfl (fun _ => rfl) ?_
      refine Rg.getf 21 F_Judge_isDurationRight_18 rfl rF_12_24 gC_33 rfl ?_
      refine Rg.step 22 F_Judge_isDurationRight_21 rfl (fun _ => rfl) ?_
      refine Rg.call 25 F_Judge_isDurationRight_22 rfl (one_V rM_12_137 (by decide) (by simp) rfl rfl (actO m1) rfl) (Nat.le_of_ble_eq_true rfl) (Cg.any (c_M_wb_no (w := 0) (by omega) hw m1 a1 (by omega) d0)) ?_
      refine Rg.ifeqP 46 28 F_Judge_isDurationRight_25 rfl rfl (fun _ => ?_) (fun h25 => absurd h25 (fun z => z))
      refine Rg.step 48 F_Judge_isDurationRight_46 rfl (fun _ => rfl) ?_
      refine Rg.step 49 F_Judge_isDurationRight_48 rfl (fun _ => rfl) ?_
      refine Rg.step 50 F_Judge_isDurationRight_49 rfl (fun _ => rfl) ?_
      refine Rg.getf 53 F_Judge_isDurationRight_50 rfl rF_12_30 gC_33 rfl ?_
      refine Rg.step 54 F_Judge_isDurationRight_53 rfl (fun _ => rfl) ?_
      refine Rg.getf 57 F_Judge_isDurationRight_54 rfl rF_12_24 gC_33 rfl ?_
      refine Rg.step 58 F_Judge_isDurationRight_57 rfl (fun _ => rfl) ?_
      refine Rg.call 61 F_Judge_isDurationRight_58 rfl (one_V rM_12_137 (by decide) (by simp) rfl rfl (actO m1) rfl) (Nat.le_of_ble_eq_true rfl) (Cg.toM sF_sc (c_M_wb_yes (w := 1) (by omega) hw m1 a1 gC_41 gF_no gF_sc (by decide) (by omega) wN (by omega) (by decide) d1)) ?_
      refine Rg.ifeqP 80 64 F_Judge_isDurationRight_61 rfl rfl (fun h61 => absurd trivial h61) (fun _ => ?_)
      refine Rg.step 65 F_Judge_isDurationRight_64 rfl (fun _ => rfl) ?_
      refine Rg.getf 68 F_Judge_isDurationRight_65 rfl rF_12_85 gC_19 rfl ?_
      refine Rg.step 69 F_Judge_isDurationRight_68 rfl (fun _ => rfl) ?_
      refine Rg.step 70 F_Judge_isDurationRight_69 rfl (fun _ => rfl) ?_
      refine Rg.getf 73 F_Judge_isDurationRight_70 rfl rF_12_24 gC_33 rfl ?_
      refine Rg.step 74 F_Judge_isDurationRight_73 rfl (fun _ => rfl) ?_
      refine Rg.call 77 F_Judge_isDurationRight_74 rfl (one_V rM_12_59 (by decide) (by simp) rfl rfl gC_24 rfl) (Nat.le_of_ble_eq_true rfl) (Cg.any (c_FrI_order _ gF_plL gF_sc (by omega) (by decide) (by omega) (by omega) (by rw [up1_eq]; omega) (by rw [up1_eq]; omega))) ?_
      rw [up1_eq, up1_eq, e1]
      refine Rg.ifgtI 84 80 F_Judge_isDurationRight_77 rfl rfl (by omega) (fun h77 => ?_) (fun h77 => ?_)
      · refine Rg.step 85 F_Judge_isDurationRight_84 rfl (fun _ => rfl) ?_
        exact Rg.ret0 F_Judge_isDurationRight_85 rfl (fun z => absurd (z.2 d1) (by omega)) rfl
      · refine Rg.step 81 F_Judge_isDurationRight_80 rfl (fun _ => rfl) ?_
        refine Rg.step 85 F_Judge_isDurationRight_81 rfl (fun _ => rfl) ?_
        exact Rg.ret1 F_Judge_isDurationRight_85 rfl ⟨(fun z => absurd d0 z), fun _ => by omega⟩ rfl
  · skip
    have q0 := durc_bd hw wN (w := 0) (by omega) a1 d0
    have n0 := nN_bd (B := 100000000000000) q0.2.2.1 ⟨q0.1, q0.2.1⟩
    have p0 := nD_pos (n := (durP noN lastOf lastN (2 * plA s + 0))) q0.2.2.1
    have e0 := cmpF_red2 (m := plLN s) (e := plLD s) (n := (durP noN lastOf lastN (2 * plA s + 0))) q0.2.2.1
    have f0 := cmpF_b (plLN s) (plLD s) (durP noN lastOf lastN (2 * plA s + 0)) (durP noD lastOf lastD (2 * plA s + 0))
    have m2 := act_m (s0 := s0) (s1 := s1) (rest := rest) (handN := handN) (handD := handD) (gT := gT) (gF := gF) (alE := alE) (alS := actions) (alM := alM) (fiF := fiF) (fiN := fiN) (fiD := fiD) (epN := epN) (epD := epD) (goH := goH) (goN := goN) (goD := goD) (plS := plS) (plP := plP) (plM := plM) (plA := plA) (plBN := plBN) (plBD := plBD) (plLN := plLN) (plLD := plLD) (plR := plR) (veW := veW) (veF := veF) (veP := veP) (vsF := vsF) (vsN := vsN) (vsD := vsD) (juM := juM) (juP := juP) (juTN := juTN) (juTD := juTD) (juO := juO) (scN := (up1 scN 0 (nN (durP noN lastOf lastN (2 * plA s + 0)) (durP noD lastOf lastD (2 * plA s + 0))))) (scD := (up1 scD 0 (nD (durP noN lastOf lastN (2 * plA s + 0)) (durP noD lastOf lastD (2 * plA s + 0))))) (noF := noF) (noN := noN) (noD := noD) (neF := neF) (neN := neN) (neD := neD) (arP := arP) (arB := arB) (arM := arM) (arU := arU) (arF := arF) (arR := arR) (arL := arL) (arT := arT) (arA := arA) (arS := arS) (leN := leN) (leD := leD) (grN := grN) (grD := grD) (arH := arH) (arLU := arLU) (arGU := arGU) (shN := shN) (shD := shD) (stF := stF) (stN := stN) (stD := stD) hO wA a1.1 a1.2
    by_cases c0 : cmpF (plLN s) (plLD s) (durP noN lastOf lastN (2 * plA s + 0)) (durP noD lastOf lastD (2 * plA s + 0)) < 0
    · refine ⟨(up1 scN 0 (nN (durP noN lastOf lastN (2 * plA s + 0)) (durP noD lastOf lastD (2 * plA s + 0)))), (up1 scD 0 (nD (durP noN lastOf lastN (2 * plA s + 0)) (durP noD lastOf lastD (2 * plA s + 0)))), ?_⟩
      refine Cg.of (Nat.le_of_ble_eq_true rfl) ?_
      change Rg _ _ _ _ 0 [(0, .ref 33), (1, .ref 6), (2, .ref 19), (3, .int (iI s))] [] _ _ _
      refine Rg.step 1 F_Judge_isDurationRight_0 rfl (fun _ => rfl) ?_
      refine Rg.step 2 F_Judge_isDurationRight_1 rfl (fun _ => rfl) ?_
      refine Rg.step 3 F_Judge_isDurationRight_2 rfl (fun _ => rfl) ?_
      refine Rg.step 4 F_Judge_isDurationRight_3 rfl (fun _ => rfl) ?_
      refine Rg.mulI 5 F_Judge_isDurationRight_4 rfl ?_
      refine Rg.call 8 F_Judge_isDurationRight_5 rfl (one_S (by decide +kernel) rM_12_112 (by decide) (by simp) rfl rfl) (Nat.le_of_ble_eq_true rfl) (Cg.any (c_Ju_actionAt hO wA (by omega) (by rw [es]; exact a1))) ?_
      rw [es]
      refine Rg.step 10 F_Judge_isDurationRight_8 rfl (fun _ => rfl) ?_
      refine Rg.step 12 F_Judge_isDurationRight_10 rfl (fun _ => rfl) ?_
      refine Rg.step 13 F_Judge_isDurationRight_12 rfl (fun _ => rfl) ?_
      refine Rg.step 14 F_Judge_isDurationRight_13 rfl (fun _ => rfl) ?_
      refine Rg.getf 17 F_Judge_isDurationRight_14 rfl rF_12_30 gC_33 rfl ?_
      refine Rg.step 18 F_Judge_isDurationRight_17 rfl (fun _ => rfl) ?_
      refine Rg.getf 21 F_Judge_isDurationRight_18 rfl rF_12_24 gC_33 rfl ?_
      refine Rg.step 22 F_Judge_isDurationRight_21 rfl (fun _ => rfl) ?_
      refine Rg.call 25 F_Judge_isDurationRight_22 rfl (one_V rM_12_137 (by decide) (by simp) rfl rfl (actO m1) rfl) (Nat.le_of_ble_eq_true rfl) (Cg.toM sF_sc (c_M_wb_yes (w := 0) (by omega) hw m1 a1 gC_41 gF_no gF_sc (by decide) (by omega) wN (by omega) (by decide) d0)) ?_
      refine Rg.ifeqP 46 28 F_Judge_isDurationRight_25 rfl rfl (fun h25 => absurd trivial h25) (fun _ => ?_)
      refine Rg.step 29 F_Judge_isDurationRight_28 rfl (fun _ => rfl) ?_
      refine Rg.getf 32 F_Judge_isDurationRight_29 rfl rF_12_85 gC_19 rfl ?_
      refine Rg.step 33 F_Judge_isDurationRight_32 rfl (fun _ => rfl) ?_
      refine Rg.step 34 F_Judge_isDurationRight_33 rfl (fun _ => rfl) ?_
      refine Rg.getf 37 F_Judge_isDurationRight_34 rfl rF_12_24 gC_33 rfl ?_
      refine Rg.step 38 F_Judge_isDurationRight_37 rfl (fun _ => rfl) ?_
      refine Rg.call 41 F_Judge_isDurationRight_38 rfl (one_V rM_12_59 (by decide) (by simp) rfl rfl gC_24 rfl) (Nat.le_of_ble_eq_true rfl) (Cg.any (c_FrI_order _ gF_plL gF_sc (by omega) (by decide) (by omega) (by omega) (by rw [up1_eq]; omega) (by rw [up1_eq]; omega))) ?_
      rw [up1_eq, up1_eq, e0]
      refine Rg.ifgeI 46 44 F_Judge_isDurationRight_41 rfl rfl (by omega) (fun h41 => by omega) (fun _ => ?_)
      refine Rg.step 45 F_Judge_isDurationRight_44 rfl (fun _ => rfl) ?_
      exact Rg.ret0 F_Judge_isDurationRight_45 rfl (fun z => z.1 d0 c0) rfl
    · skip
      by_cases d1 : lastOf (2 * plA s + 1) = -2
      · refine ⟨(up1 scN 0 (nN (durP noN lastOf lastN (2 * plA s + 0)) (durP noD lastOf lastD (2 * plA s + 0)))), (up1 scD 0 (nD (durP noN lastOf lastN (2 * plA s + 0)) (durP noD lastOf lastD (2 * plA s + 0)))), ?_⟩
        refine Cg.of (Nat.le_of_ble_eq_true rfl) ?_
        change Rg _ _ _ _ 0 [(0, .ref 33), (1, .ref 6), (2, .ref 19), (3, .int (iI s))] [] _ _ _
        refine Rg.step 1 F_Judge_isDurationRight_0 rfl (fun _ => rfl) ?_
        refine Rg.step 2 F_Judge_isDurationRight_1 rfl (fun _ => rfl) ?_
        refine Rg.step 3 F_Judge_isDurationRight_2 rfl (fun _ => rfl) ?_
        refine Rg.step 4 F_Judge_isDurationRight_3 rfl (fun _ => rfl) ?_
        refine Rg.mulI 5 F_Judge_isDurationRight_4 rfl ?_
        refine Rg.call 8 F_Judge_isDurationRight_5 rfl (one_S (by decide +kernel) rM_12_112 (by decide) (by simp) rfl rfl) (Nat.le_of_ble_eq_true rfl) (Cg.any (c_Ju_actionAt hO wA (by omega) (by rw [es]; exact a1))) ?_
        rw [es]
        refine Rg.step 10 F_Judge_isDurationRight_8 rfl (fun _ => rfl) ?_
        refine Rg.step 12 F_Judge_isDurationRight_10 rfl (fun _ => rfl) ?_
        refine Rg.step 13 F_Judge_isDurationRight_12 rfl (fun _ => rfl) ?_
        refine Rg.step 14 F_Judge_isDurationRight_13 rfl (fun _ => rfl) ?_
        refine Rg.getf 17 F_Judge_isDurationRight_14 rfl rF_12_30 gC_33 rfl ?_
        refine Rg.step 18 F_Judge_isDurationRight_17 rfl (fun _ => rfl) ?_
        refine Rg.getf 21 F_Judge_isDurationRight_18 rfl rF_12_24 gC_33 rfl ?_
        refine Rg.step 22 F_Judge_isDurationRight_21 rfl (fun _ => rfl) ?_
        refine Rg.call 25 F_Judge_isDurationRight_22 rfl (one_V rM_12_137 (by decide) (by simp) rfl rfl (actO m1) rfl) (Nat.le_of_ble_eq_true rfl) (Cg.toM sF_sc (c_M_wb_yes (w := 0) (by omega) hw m1 a1 gC_41 gF_no gF_sc (by decide) (by omega) wN (by omega) (by decide) d0)) ?_
        refine Rg.ifeqP 46 28 F_Judge_isDurationRight_25 rfl rfl (fun h25 => absurd trivial h25) (fun _ => ?_)
        refine Rg.step 29 F_Judge_isDurationRight_28 rfl (fun _ => rfl) ?_
        refine Rg.getf 32 F_Judge_isDurationRight_29 rfl rF_12_85 gC_19 rfl ?_
        refine Rg.step 33 F_Judge_isDurationRight_32 rfl (fun _ => rfl) ?_
        refine Rg.step 34 F_Judge_isDurationRight_33 rfl (fun _ => rfl) ?_
        refine Rg.getf 37 F_Judge_isDurationRight_34 rfl rF_12_24 gC_33 rfl ?_
        refine Rg.step 38 F_Judge_isDurationRight_37 rfl (fun _ => rfl) ?_
        refine Rg.call 41 F_Judge_isDurationRight_38 rfl (one_V rM_12_59 (by decide) (by simp) rfl rfl gC_24 rfl) (Nat.le_of_ble_eq_true rfl) (Cg.any (c_FrI_order _ gF_plL gF_sc (by omega) (by decide) (by omega) (by omega) (by rw [up1_eq]; omega) (by rw [up1_eq]; omega))) ?_
        rw [up1_eq, up1_eq, e0]
        refine Rg.ifgeI 46 44 F_Judge_isDurationRight_41 rfl rfl (by omega) (fun _ => ?_) (fun h41 => absurd h41 (by omega))
        refine Rg.step 48 F_Judge_isDurationRight_46 rfl (fun _ => rfl) ?_
        refine Rg.step 49 F_Judge_isDurationRight_48 rfl (fun _ => rfl) ?_
        refine Rg.step 50 F_Judge_isDurationRight_49 rfl (fun _ => rfl) ?_
        refine Rg.getf 53 F_Judge_isDurationRight_50 rfl rF_12_30 gC_33 rfl ?_
        refine Rg.step 54 F_Judge_isDurationRight_53 rfl (fun _ => rfl) ?_
        refine Rg.getf 57 F_Judge_isDurationRight_54 rfl rF_12_24 gC_33 rfl ?_
        refine Rg.step 58 F_Judge_isDurationRight_57 rfl (fun _ => rfl) ?_
        refine Rg.call 61 F_Judge_isDurationRight_58 rfl (one_V rM_12_137 (by decide) (by simp) rfl rfl (actO m2) rfl) (Nat.le_of_ble_eq_true rfl) (Cg.any (c_M_wb_no (w := 1) (by omega) hw m2 a1 (by omega) d1)) ?_
        refine Rg.ifeqP 80 64 F_Judge_isDurationRight_61 rfl rfl (fun _ => ?_) (fun h61 => absurd h61 (fun z => z))
        refine Rg.step 81 F_Judge_isDurationRight_80 rfl (fun _ => rfl) ?_
        refine Rg.step 85 F_Judge_isDurationRight_81 rfl (fun _ => rfl) ?_
        exact Rg.ret1 F_Judge_isDurationRight_85 rfl ⟨(fun _ => c0), fun z => absurd d1 z⟩ rfl
      · refine ⟨(up1 (up1 scN 0 (nN (durP noN lastOf lastN (2 * plA s + 0)) (durP noD lastOf lastD (2 * plA s + 0)))) 0 (nN (durP noN lastOf lastN (2 * plA s + 1)) (durP noD lastOf lastD (2 * plA s + 1)))), (up1 (up1 scD 0 (nD (durP noN lastOf lastN (2 * plA s + 0)) (durP noD lastOf lastD (2 * plA s + 0)))) 0 (nD (durP noN lastOf lastN (2 * plA s + 1)) (durP noD lastOf lastD (2 * plA s + 1)))), ?_⟩
        have q1 := durc_bd hw wN (w := 1) (by omega) a1 d1
        have n1 := nN_bd (B := 100000000000000) q1.2.2.1 ⟨q1.1, q1.2.1⟩
        have p1 := nD_pos (n := (durP noN lastOf lastN (2 * plA s + 1))) q1.2.2.1
        have e1 := cmpF_red2 (m := plLN s) (e := plLD s) (n := (durP noN lastOf lastN (2 * plA s + 1))) q1.2.2.1
        have f1 := cmpF_b (plLN s) (plLD s) (durP noN lastOf lastN (2 * plA s + 1)) (durP noD lastOf lastD (2 * plA s + 1))
        refine Cg.of (Nat.le_of_ble_eq_true rfl) ?_
        change Rg _ _ _ _ 0 [(0, .ref 33), (1, .ref 6), (2, .ref 19), (3, .int (iI s))] [] _ _ _
        refine Rg.step 1 F_Judge_isDurationRight_0 rfl (fun _ => rfl) ?_
        refine Rg.step 2 F_Judge_isDurationRight_1 rfl (fun _ => rfl) ?_
        refine Rg.step 3 F_Judge_isDurationRight_2 rfl (fun _ => rfl) ?_
        refine Rg.step 4 F_Judge_isDurationRight_3 rfl (fun _ => rfl) ?_
        refine Rg.mulI 5 F_Judge_isDurationRight_4 rfl ?_
        refine Rg.call 8 F_Judge_isDurationRight_5 rfl (one_S (by decide +kernel) rM_12_112 (by decide) (by simp) rfl rfl) (Nat.le_of_ble_eq_true rfl) (Cg.any (c_Ju_actionAt hO wA (by omega) (by rw [es]; exact a1))) ?_
        rw [es]
        refine Rg.step 10 F_Judge_isDurationRight_8 rfl (fun _ => rfl) ?_
        refine Rg.step 12 F_Judge_isDurationRight_10 rfl (fun _ => rfl) ?_
        refine Rg.step 13 F_Judge_isDurationRight_12 rfl (fun _ => rfl) ?_
        refine Rg.step 14 F_Judge_isDurationRight_13 rfl (fun _ => rfl) ?_
        refine Rg.getf 17 F_Judge_isDurationRight_14 rfl rF_12_30 gC_33 rfl ?_
        refine Rg.step 18 F_Judge_isDurationRight_17 rfl (fun _ => rfl) ?_
        refine Rg.getf 21 F_Judge_isDurationRight_18 rfl rF_12_24 gC_33 rfl ?_
        refine Rg.step 22 F_Judge_isDurationRight_21 rfl (fun _ => rfl) ?_
        refine Rg.call 25 F_Judge_isDurationRight_22 rfl (one_V rM_12_137 (by decide) (by simp) rfl rfl (actO m1) rfl) (Nat.le_of_ble_eq_true rfl) (Cg.toM sF_sc (c_M_wb_yes (w := 0) (by omega) hw m1 a1 gC_41 gF_no gF_sc (by decide) (by omega) wN (by omega) (by decide) d0)) ?_
        refine Rg.ifeqP 46 28 F_Judge_isDurationRight_25 rfl rfl (fun h25 => absurd trivial h25) (fun _ => ?_)
        refine Rg.step 29 F_Judge_isDurationRight_28 rfl (fun _ => rfl) ?_
        refine Rg.getf 32 F_Judge_isDurationRight_29 rfl rF_12_85 gC_19 rfl ?_
        refine Rg.step 33 F_Judge_isDurationRight_32 rfl (fun _ => rfl) ?_
        refine Rg.step 34 F_Judge_isDurationRight_33 rfl (fun _ => rfl) ?_
        refine Rg.getf 37 F_Judge_isDurationRight_34 rfl rF_12_24 gC_33 rfl ?_
        refine Rg.step 38 F_Judge_isDurationRight_37 rfl (fun _ => rfl) ?_
        refine Rg.call 41 F_Judge_isDurationRight_38 rfl (one_V rM_12_59 (by decide) (by simp) rfl rfl gC_24 rfl) (Nat.le_of_ble_eq_true rfl) (Cg.any (c_FrI_order _ gF_plL gF_sc (by omega) (by decide) (by omega) (by omega) (by rw [up1_eq]; omega) (by rw [up1_eq]; omega))) ?_
        rw [up1_eq, up1_eq, e0]
        refine Rg.ifgeI 46 44 F_Judge_isDurationRight_41 rfl rfl (by omega) (fun _ => ?_) (fun h41 => absurd h41 (by omega))
        refine Rg.step 48 F_Judge_isDurationRight_46 rfl (fun _ => rfl) ?_
        refine Rg.step 49 F_Judge_isDurationRight_48 rfl (fun _ => rfl) ?_
        refine Rg.step 50 F_Judge_isDurationRight_49 rfl (fun _ => rfl) ?_
        refine Rg.getf 53 F_Judge_isDurationRight_50 rfl rF_12_30 gC_33 rfl ?_
        refine Rg.step 54 F_Judge_isDurationRight_53 rfl (fun _ => rfl) ?_
        refine Rg.getf 57 F_Judge_isDurationRight_54 rfl rF_12_24 gC_33 rfl ?_
        refine Rg.step 58 F_Judge_isDurationRight_57 rfl (fun _ => rfl) ?_
        refine Rg.call 61 F_Judge_isDurationRight_58 rfl (one_V rM_12_137 (by decide) (by simp) rfl rfl (actO m2) rfl) (Nat.le_of_ble_eq_true rfl) (Cg.toM sF_sc (c_M_wb_yes (w := 1) (by omega) hw m2 a1 gC_41 gF_no gF_sc (by decide) (by omega) wN (by omega) (by decide) d1)) ?_
        refine Rg.ifeqP 80 64 F_Judge_isDurationRight_61 rfl rfl (fun h61 => absurd trivial h61) (fun _ => ?_)
        refine Rg.step 65 F_Judge_isDurationRight_64 rfl (fun _ => rfl) ?_
        refine Rg.getf 68 F_Judge_isDurationRight_65 rfl rF_12_85 gC_19 rfl ?_
        refine Rg.step 69 F_Judge_isDurationRight_68 rfl (fun _ => rfl) ?_
        refine Rg.step 70 F_Judge_isDurationRight_69 rfl (fun _ => rfl) ?_
        refine Rg.getf 73 F_Judge_isDurationRight_70 rfl rF_12_24 gC_33 rfl ?_
        refine Rg.step 74 F_Judge_isDurationRight_73 rfl (fun _ => rfl) ?_
        refine Rg.call 77 F_Judge_isDurationRight_74 rfl (one_V rM_12_59 (by decide) (by simp) rfl rfl gC_24 rfl) (Nat.le_of_ble_eq_true rfl) (Cg.any (c_FrI_order _ gF_plL gF_sc (by omega) (by decide) (by omega) (by omega) (by rw [up1_eq]; omega) (by rw [up1_eq]; omega))) ?_
        rw [up1_eq, up1_eq, e1]
        refine Rg.ifgtI 84 80 F_Judge_isDurationRight_77 rfl rfl (by omega) (fun h77 => ?_) (fun h77 => ?_)
        · refine Rg.step 85 F_Judge_isDurationRight_84 rfl (fun _ => rfl) ?_
          exact Rg.ret0 F_Judge_isDurationRight_85 rfl (fun z => absurd (z.2 d1) (by omega)) rfl
        · refine Rg.step 81 F_Judge_isDurationRight_80 rfl (fun _ => rfl) ?_
          refine Rg.step 85 F_Judge_isDurationRight_81 rfl (fun _ => rfl) ?_
          exact Rg.ret1 F_Judge_isDurationRight_85 rfl ⟨(fun _ => c0), fun _ => by omega⟩ rfl
theorem dur_0 {d n0 : Nat} (hw : WT epsilonN epsilonD wishes wants wantN wantD actions needs needTime needOf needHow needN needD changes changeTime changeOf changeHow changeN changeD lastOf lastN lastD firstN firstD) (hO : ActsOK needs needTime needOf needHow needN needD changes changeTime changeOf changeHow changeN changeD lastOf lastN lastD rest alE actions ab) (hPA : ∀ s, 0 ≤ s → s < plS → 0 ≤ plA s ∧ plA s < actions) (wS : 0 ≤ plS ∧ plS ≤ 12) (hor : ∀ i, 0 ≤ i → i < 2 * plS → 0 ≤ juO i ∧ juO i < 2 * plS) (wN : WN noN noD) (hlen : ∀ s, 0 ≤ s → s < plS → 0 < plLN s ∧ plLN s ≤ 100000000000 ∧ 0 < plLD s ∧ plLD s ≤ 1000000) {f to : Int} (hft : 0 ≤ f ∧ to ≤ 2 * plS) : ∀ (n : Nat) (k : Int) (x y : Int → Int), k + n = to → 0 ≤ k → (∀ i, k ≤ i → i < to → ¬ (juO i % 2 = 0 ∧ ¬ lastsOK lastOf lastN lastD noN noD (plA (juO i / 2)) (plLN (juO i / 2)) (plLD (juO i / 2)))) → ∃ x1 y1, Rg false (d + 5) m_Judge_findWrongDuration n0 3 [(5, .int (iI k)), (0, .ref 33), (1, .ref 6), (2, .ref 19), (4, .int (iI to))] [] (MC s0 s1 handN handD gT gF alE actions alM fiF fiN fiD epN epD goH goN goD plS plP plM plA plBN plBD plLN plLD plR veW veF veP vsF vsN vsD juM juP juTN juTD juO x y noF noN noD neF neN neD arP arB arM arU arF arR arL arT arA arS leN leD grN grD arH arLU arGU shN shD stF stN stD rest) (.inl (some (.int (iI (-1))))) (MC s0 s1 handN handD gT gF alE actions alM fiF fiN fiD epN epD goH goN goD plS plP plM plA plBN plBD plLN plLD plR veW veF veP vsF vsN vsD juM juP juTN juTD juO x1 y1 noF noN noD neF neN neD arP arB arM arU arF arR arL arT arA arS leN leD grN grD arH arLU arGU shN shD stF stN stD rest) := by
  intro n
  induction n with
  | zero =>
    intro k x y hk hk2 hn
    refine ⟨x, y, ?_⟩
    refine Rg.step 5 F_Judge_findWrongDuration_3 rfl (fun _ => rfl) ?_
    refine Rg.step 7 F_Judge_findWrongDuration_5 rfl (fun _ => rfl) ?_
    refine Rg.icgeI 55 10 F_Judge_findWrongDuration_7 rfl rfl (by omega) (by omega) (fun _ => ?_) (fun h7 => by omega)
    refine Rg.step 56 F_Judge_findWrongDuration_55 rfl (fun _ => rfl) ?_
    exact Rg.retI F_Judge_findWrongDuration_56 rfl rfl rfl
  | succ n ih =>
    intro k x y hk hk2 hn
    have hk3 := hn k (by omega) (by omega)
    have o1 := hor k (by omega) (by omega)
    have l1 := hlen (juO k / 2) (by omega) (by omega)
    obtain ⟨x0, y0, hc⟩ := c_Ju_durRight (d := d) (s0 := s0) (s1 := s1) (rest := rest) (handN := handN) (handD := handD) (gT := gT) (gF := gF) (alE := alE) (alM := alM) (fiF := fiF) (fiN := fiN) (fiD := fiD) (epN := epN) (epD := epD) (goH := goH) (goN := goN) (goD := goD) (plS := plS) (plP := plP) (plM := plM) (plA := plA) (plBN := plBN) (plBD := plBD) (plLN := plLN) (plLD := plLD) (plR := plR) (veW := veW) (veF := veF) (veP := veP) (vsF := vsF) (vsN := vsN) (vsD := vsD) (juM := juM) (juP := juP) (juTN := juTN) (juTD := juTD) (juO := juO) (scN := x) (scD := y) (noF := noF) (noN := noN) (noD := noD) (neF := neF) (neN := neN) (neD := neD) (arP := arP) (arB := arB) (arM := arM) (arU := arU) (arF := arF) (arR := arR) (arL := arL) (arT := arT) (arA := arA) (arS := arS) (leN := leN) (leD := leD) (grN := grN) (grD := grD) (arH := arH) (arLU := arLU) (arGU := arGU) (shN := shN) (shD := shD) (stF := stF) (stN := stN) (stD := stD) hw hO hPA wS wN (s := juO k / 2) (by omega) l1
    by_cases he : juO k % 2 = 0
    · obtain ⟨x1, y1, ht⟩ := ih (k + 1) x0 y0 (by omega) (by omega) (fun i z1 z2 => hn i (by omega) z2)
      refine ⟨x1, y1, ?_⟩
      refine Rg.step 5 F_Judge_findWrongDuration_3 rfl (fun _ => rfl) ?_
      refine Rg.step 7 F_Judge_findWrongDuration_5 rfl (fun _ => rfl) ?_
      refine Rg.icgeI 55 10 F_Judge_findWrongDuration_7 rfl rfl (by omega) (by omega) (fun h7 => by omega) (fun _ => ?_)
      refine Rg.step 11 F_Judge_findWrongDuration_10 rfl (fun _ => rfl) ?_
      refine Rg.getf 14 F_Judge_findWrongDuration_11 rfl rF_12_20 gC_33 rfl ?_
      refine Rg.step 16 F_Judge_findWrongDuration_14 rfl (fun _ => rfl) ?_
      refine Rg.ild 17 F_Judge_findWrongDuration_16 rfl gC_37 (by omega) (by decide) ?_
      refine Rg.call 20 F_Judge_findWrongDuration_17 rfl (one_S (by decide +kernel) rM_12_81 (by decide) (by simp) rfl rfl) (Nat.le_of_ble_eq_true rfl) (Cg.any (c_PJ_isEnd (by omega))) ?_
      refine Rg.ifneP 49 23 F_Judge_findWrongDuration_20 rfl rfl (fun h20 => absurd he h20) (fun _ => ?_)
      refine Rg.step 24 F_Judge_findWrongDuration_23 rfl (fun _ => rfl) ?_
      refine Rg.step 25 F_Judge_findWrongDuration_24 rfl (fun _ => rfl) ?_
      refine Rg.step 26 F_Judge_findWrongDuration_25 rfl (fun _ => rfl) ?_
      refine Rg.step 27 F_Judge_findWrongDuration_26 rfl (fun _ => rfl) ?_
      refine Rg.getf 30 F_Judge_findWrongDuration_27 rfl rF_12_20 gC_33 rfl ?_
      refine Rg.step 32 F_Judge_findWrongDuration_30 rfl (fun _ => rfl) ?_
      refine Rg.ild 33 F_Judge_findWrongDuration_32 rfl gC_37 (by omega) (by decide) ?_
      refine Rg.step 34 F_Judge_findWrongDuration_33 rfl (fun _ => rfl) ?_
      refine Rg.divIp 35 F_Judge_findWrongDuration_34 rfl (by omega) (by omega) ?_
      refine Rg.call 38 F_Judge_findWrongDuration_35 rfl (one_V rM_12_133 (by decide) (by simp) rfl rfl gC_33 rfl) (Nat.le_of_ble_eq_true rfl) hc ?_
      refine Rg.ifneP 49 41 F_Judge_findWrongDuration_38 rfl rfl (fun _ => ?_) (fun h38 => absurd ⟨he, h38⟩ hk3)
      refine Rg.inc 52 F_Judge_findWrongDuration_49 rfl rfl (by decide) ?_
      refine Rg.step 3 F_Judge_findWrongDuration_52 rfl (fun _ => rfl) ?_
      exact Rg.weak ht (by simp [lput1, lput2, Value.category, fi0, fi1, fi2, fi3] <;> first | rfl | exact ⟨rfl, rfl⟩) (by simp [lput1, lput2, Value.category, fi0, fi1, fi2, fi3] <;> first | rfl | exact ⟨rfl, rfl⟩)
    · obtain ⟨x1, y1, ht⟩ := ih (k + 1) x y (by omega) (by omega) (fun i z1 z2 => hn i (by omega) z2)
      refine ⟨x1, y1, ?_⟩
      refine Rg.step 5 F_Judge_findWrongDuration_3 rfl (fun _ => rfl) ?_
      refine Rg.step 7 F_Judge_findWrongDuration_5 rfl (fun _ => rfl) ?_
      refine Rg.icgeI 55 10 F_Judge_findWrongDuration_7 rfl rfl (by omega) (by omega) (fun h7 => by omega) (fun _ => ?_)
      refine Rg.step 11 F_Judge_findWrongDuration_10 rfl (fun _ => rfl) ?_
      refine Rg.getf 14 F_Judge_findWrongDuration_11 rfl rF_12_20 gC_33 rfl ?_
      refine Rg.step 16 F_Judge_findWrongDuration_14 rfl (fun _ => rfl) ?_
      refine Rg.ild 17 F_Judge_findWrongDuration_16 rfl gC_37 (by omega) (by decide) ?_
      refine Rg.call 20 F_Judge_findWrongDuration_17 rfl (one_S (by decide +kernel) rM_12_81 (by decide) (by simp) rfl rfl) (Nat.le_of_ble_eq_true rfl) (Cg.any (c_PJ_isEnd (by omega))) ?_
      refine Rg.ifneP 49 23 F_Judge_findWrongDuration_20 rfl rfl (fun _ => ?_) (fun h20 => absurd he h20)
      refine Rg.inc 52 F_Judge_findWrongDuration_49 rfl rfl (by decide) ?_
      refine Rg.step 3 F_Judge_findWrongDuration_52 rfl (fun _ => rfl) ?_
      exact Rg.weak ht (by simp [lput1, lput2, Value.category, fi0, fi1, fi2, fi3] <;> first | rfl | exact ⟨rfl, rfl⟩) (by simp [lput1, lput2, Value.category, fi0, fi1, fi2, fi3] <;> first | rfl | exact ⟨rfl, rfl⟩)
theorem dur_1 {d n0 : Nat} (hw : WT epsilonN epsilonD wishes wants wantN wantD actions needs needTime needOf needHow needN needD changes changeTime changeOf changeHow changeN changeD lastOf lastN lastD firstN firstD) (hO : ActsOK needs needTime needOf needHow needN needD changes changeTime changeOf changeHow changeN changeD lastOf lastN lastD rest alE actions ab) (hPA : ∀ s, 0 ≤ s → s < plS → 0 ≤ plA s ∧ plA s < actions) (wS : 0 ≤ plS ∧ plS ≤ 12) (hor : ∀ i, 0 ≤ i → i < 2 * plS → 0 ≤ juO i ∧ juO i < 2 * plS) (wN : WN noN noD) (hlen : ∀ s, 0 ≤ s → s < plS → 0 < plLN s ∧ plLN s ≤ 100000000000 ∧ 0 < plLD s ∧ plLD s ≤ 1000000) {f to : Int} (hft : 0 ≤ f ∧ to ≤ 2 * plS) {h : Int} (hh : h < to) (hB : (juO h % 2 = 0 ∧ ¬ lastsOK lastOf lastN lastD noN noD (plA (juO h / 2)) (plLN (juO h / 2)) (plLD (juO h / 2)))) : ∀ (n : Nat) (k : Int) (x y : Int → Int), k + n = h → 0 ≤ k → (∀ i, k ≤ i → i < h → ¬ (juO i % 2 = 0 ∧ ¬ lastsOK lastOf lastN lastD noN noD (plA (juO i / 2)) (plLN (juO i / 2)) (plLD (juO i / 2)))) → ∃ x1 y1, Rg false (d + 5) m_Judge_findWrongDuration n0 3 [(5, .int (iI k)), (0, .ref 33), (1, .ref 6), (2, .ref 19), (4, .int (iI to))] [] (MC s0 s1 handN handD gT gF alE actions alM fiF fiN fiD epN epD goH goN goD plS plP plM plA plBN plBD plLN plLD plR veW veF veP vsF vsN vsD juM juP juTN juTD juO x y noF noN noD neF neN neD arP arB arM arU arF arR arL arT arA arS leN leD grN grD arH arLU arGU shN shD stF stN stD rest) (.inl (some (.int (iI (juO h))))) (MC s0 s1 handN handD gT gF alE actions alM fiF fiN fiD epN epD goH goN goD plS plP plM plA plBN plBD plLN plLD plR veW veF veP vsF vsN vsD juM juP juTN juTD juO x1 y1 noF noN noD neF neN neD arP arB arM arU arF arR arL arT arA arS leN leD grN grD arH arLU arGU shN shD stF stN stD rest) := by
  intro n
  induction n with
  | zero =>
    intro k x y hk hk2 hn
    have ek : k = h := by omega
    subst ek
    have o1 := hor k (by omega) (by omega)
    have l1 := hlen (juO k / 2) (by omega) (by omega)
    obtain ⟨x0, y0, hc⟩ := c_Ju_durRight (d := d) (s0 := s0) (s1 := s1) (rest := rest) (handN := handN) (handD := handD) (gT := gT) (gF := gF) (alE := alE) (alM := alM) (fiF := fiF) (fiN := fiN) (fiD := fiD) (epN := epN) (epD := epD) (goH := goH) (goN := goN) (goD := goD) (plS := plS) (plP := plP) (plM := plM) (plA := plA) (plBN := plBN) (plBD := plBD) (plLN := plLN) (plLD := plLD) (plR := plR) (veW := veW) (veF := veF) (veP := veP) (vsF := vsF) (vsN := vsN) (vsD := vsD) (juM := juM) (juP := juP) (juTN := juTN) (juTD := juTD) (juO := juO) (scN := x) (scD := y) (noF := noF) (noN := noN) (noD := noD) (neF := neF) (neN := neN) (neD := neD) (arP := arP) (arB := arB) (arM := arM) (arU := arU) (arF := arF) (arR := arR) (arL := arL) (arT := arT) (arA := arA) (arS := arS) (leN := leN) (leD := leD) (grN := grN) (grD := grD) (arH := arH) (arLU := arLU) (arGU := arGU) (shN := shN) (shD := shD) (stF := stF) (stN := stN) (stD := stD) hw hO hPA wS wN (s := juO k / 2) (by omega) l1
    refine ⟨x0, y0, ?_⟩
    refine Rg.step 5 F_Judge_findWrongDuration_3 rfl (fun _ => rfl) ?_
    refine Rg.step 7 F_Judge_findWrongDuration_5 rfl (fun _ => rfl) ?_
    refine Rg.icgeI 55 10 F_Judge_findWrongDuration_7 rfl rfl (by omega) (by omega) (fun h7 => by omega) (fun _ => ?_)
    refine Rg.step 11 F_Judge_findWrongDuration_10 rfl (fun _ => rfl) ?_
    refine Rg.getf 14 F_Judge_findWrongDuration_11 rfl rF_12_20 gC_33 rfl ?_
    refine Rg.step 16 F_Judge_findWrongDuration_14 rfl (fun _ => rfl) ?_
    refine Rg.ild 17 F_Judge_findWrongDuration_16 rfl gC_37 (by omega) (by decide) ?_
    refine Rg.call 20 F_Judge_findWrongDuration_17 rfl (one_S (by decide +kernel) rM_12_81 (by decide) (by simp) rfl rfl) (Nat.le_of_ble_eq_true rfl) (Cg.any (c_PJ_isEnd (by omega))) ?_
    refine Rg.ifneP 49 23 F_Judge_findWrongDuration_20 rfl rfl (fun h20 => absurd hB.1 h20) (fun _ => ?_)
    refine Rg.step 24 F_Judge_findWrongDuration_23 rfl (fun _ => rfl) ?_
    refine Rg.step 25 F_Judge_findWrongDuration_24 rfl (fun _ => rfl) ?_
    refine Rg.step 26 F_Judge_findWrongDuration_25 rfl (fun _ => rfl) ?_
    refine Rg.step 27 F_Judge_findWrongDuration_26 rfl (fun _ => rfl) ?_
    refine Rg.getf 30 F_Judge_findWrongDuration_27 rfl rF_12_20 gC_33 rfl ?_
    refine Rg.step 32 F_Judge_findWrongDuration_30 rfl (fun _ => rfl) ?_
    refine Rg.ild 33 F_Judge_findWrongDuration_32 rfl gC_37 (by omega) (by decide) ?_
    refine Rg.step 34 F_Judge_findWrongDuration_33 rfl (fun _ => rfl) ?_
    refine Rg.divIp 35 F_Judge_findWrongDuration_34 rfl (by omega) (by omega) ?_
    refine Rg.call 38 F_Judge_findWrongDuration_35 rfl (one_V rM_12_133 (by decide) (by simp) rfl rfl gC_33 rfl) (Nat.le_of_ble_eq_true rfl) hc ?_
    refine Rg.ifneP 49 41 F_Judge_findWrongDuration_38 rfl rfl (fun h38 => absurd h38 hB.2) (fun _ => ?_)
    refine Rg.step 42 F_Judge_findWrongDuration_41 rfl (fun _ => rfl) ?_
    refine Rg.getf 45 F_Judge_findWrongDuration_42 rfl rF_12_20 gC_33 rfl ?_
    refine Rg.step 47 F_Judge_findWrongDuration_45 rfl (fun _ => rfl) ?_
    refine Rg.ild 48 F_Judge_findWrongDuration_47 rfl gC_37 (by omega) (by decide) ?_
    exact Rg.retI F_Judge_findWrongDuration_48 rfl rfl rfl
  | succ n ih =>
    intro k x y hk hk2 hn
    have hk3 := hn k (by omega) (by omega)
    have o1 := hor k (by omega) (by omega)
    have l1 := hlen (juO k / 2) (by omega) (by omega)
    obtain ⟨x0, y0, hc⟩ := c_Ju_durRight (d := d) (s0 := s0) (s1 := s1) (rest := rest) (handN := handN) (handD := handD) (gT := gT) (gF := gF) (alE := alE) (alM := alM) (fiF := fiF) (fiN := fiN) (fiD := fiD) (epN := epN) (epD := epD) (goH := goH) (goN := goN) (goD := goD) (plS := plS) (plP := plP) (plM := plM) (plA := plA) (plBN := plBN) (plBD := plBD) (plLN := plLN) (plLD := plLD) (plR := plR) (veW := veW) (veF := veF) (veP := veP) (vsF := vsF) (vsN := vsN) (vsD := vsD) (juM := juM) (juP := juP) (juTN := juTN) (juTD := juTD) (juO := juO) (scN := x) (scD := y) (noF := noF) (noN := noN) (noD := noD) (neF := neF) (neN := neN) (neD := neD) (arP := arP) (arB := arB) (arM := arM) (arU := arU) (arF := arF) (arR := arR) (arL := arL) (arT := arT) (arA := arA) (arS := arS) (leN := leN) (leD := leD) (grN := grN) (grD := grD) (arH := arH) (arLU := arLU) (arGU := arGU) (shN := shN) (shD := shD) (stF := stF) (stN := stN) (stD := stD) hw hO hPA wS wN (s := juO k / 2) (by omega) l1
    by_cases he : juO k % 2 = 0
    · obtain ⟨x1, y1, ht⟩ := ih (k + 1) x0 y0 (by omega) (by omega) (fun i z1 z2 => hn i (by omega) z2)
      refine ⟨x1, y1, ?_⟩
      refine Rg.step 5 F_Judge_findWrongDuration_3 rfl (fun _ => rfl) ?_
      refine Rg.step 7 F_Judge_findWrongDuration_5 rfl (fun _ => rfl) ?_
      refine Rg.icgeI 55 10 F_Judge_findWrongDuration_7 rfl rfl (by omega) (by omega) (fun h7 => by omega) (fun _ => ?_)
      refine Rg.step 11 F_Judge_findWrongDuration_10 rfl (fun _ => rfl) ?_
      refine Rg.getf 14 F_Judge_findWrongDuration_11 rfl rF_12_20 gC_33 rfl ?_
      refine Rg.step 16 F_Judge_findWrongDuration_14 rfl (fun _ => rfl) ?_
      refine Rg.ild 17 F_Judge_findWrongDuration_16 rfl gC_37 (by omega) (by decide) ?_
      refine Rg.call 20 F_Judge_findWrongDuration_17 rfl (one_S (by decide +kernel) rM_12_81 (by decide) (by simp) rfl rfl) (Nat.le_of_ble_eq_true rfl) (Cg.any (c_PJ_isEnd (by omega))) ?_
      refine Rg.ifneP 49 23 F_Judge_findWrongDuration_20 rfl rfl (fun h20 => absurd he h20) (fun _ => ?_)
      refine Rg.step 24 F_Judge_findWrongDuration_23 rfl (fun _ => rfl) ?_
      refine Rg.step 25 F_Judge_findWrongDuration_24 rfl (fun _ => rfl) ?_
      refine Rg.step 26 F_Judge_findWrongDuration_25 rfl (fun _ => rfl) ?_
      refine Rg.step 27 F_Judge_findWrongDuration_26 rfl (fun _ => rfl) ?_
      refine Rg.getf 30 F_Judge_findWrongDuration_27 rfl rF_12_20 gC_33 rfl ?_
      refine Rg.step 32 F_Judge_findWrongDuration_30 rfl (fun _ => rfl) ?_
      refine Rg.ild 33 F_Judge_findWrongDuration_32 rfl gC_37 (by omega) (by decide) ?_
      refine Rg.step 34 F_Judge_findWrongDuration_33 rfl (fun _ => rfl) ?_
      refine Rg.divIp 35 F_Judge_findWrongDuration_34 rfl (by omega) (by omega) ?_
      refine Rg.call 38 F_Judge_findWrongDuration_35 rfl (one_V rM_12_133 (by decide) (by simp) rfl rfl gC_33 rfl) (Nat.le_of_ble_eq_true rfl) hc ?_
      refine Rg.ifneP 49 41 F_Judge_findWrongDuration_38 rfl rfl (fun _ => ?_) (fun h38 => absurd ⟨he, h38⟩ hk3)
      refine Rg.inc 52 F_Judge_findWrongDuration_49 rfl rfl (by decide) ?_
      refine Rg.step 3 F_Judge_findWrongDuration_52 rfl (fun _ => rfl) ?_
      exact Rg.weak ht (by simp [lput1, lput2, Value.category, fi0, fi1, fi2, fi3] <;> first | rfl | exact ⟨rfl, rfl⟩) (by simp [lput1, lput2, Value.category, fi0, fi1, fi2, fi3] <;> first | rfl | exact ⟨rfl, rfl⟩)
    · obtain ⟨x1, y1, ht⟩ := ih (k + 1) x y (by omega) (by omega) (fun i z1 z2 => hn i (by omega) z2)
      refine ⟨x1, y1, ?_⟩
      refine Rg.step 5 F_Judge_findWrongDuration_3 rfl (fun _ => rfl) ?_
      refine Rg.step 7 F_Judge_findWrongDuration_5 rfl (fun _ => rfl) ?_
      refine Rg.icgeI 55 10 F_Judge_findWrongDuration_7 rfl rfl (by omega) (by omega) (fun h7 => by omega) (fun _ => ?_)
      refine Rg.step 11 F_Judge_findWrongDuration_10 rfl (fun _ => rfl) ?_
      refine Rg.getf 14 F_Judge_findWrongDuration_11 rfl rF_12_20 gC_33 rfl ?_
      refine Rg.step 16 F_Judge_findWrongDuration_14 rfl (fun _ => rfl) ?_
      refine Rg.ild 17 F_Judge_findWrongDuration_16 rfl gC_37 (by omega) (by decide) ?_
      refine Rg.call 20 F_Judge_findWrongDuration_17 rfl (one_S (by decide +kernel) rM_12_81 (by decide) (by simp) rfl rfl) (Nat.le_of_ble_eq_true rfl) (Cg.any (c_PJ_isEnd (by omega))) ?_
      refine Rg.ifneP 49 23 F_Judge_findWrongDuration_20 rfl rfl (fun _ => ?_) (fun h20 => absurd he h20)
      refine Rg.inc 52 F_Judge_findWrongDuration_49 rfl rfl (by decide) ?_
      refine Rg.step 3 F_Judge_findWrongDuration_52 rfl (fun _ => rfl) ?_
      exact Rg.weak ht (by simp [lput1, lput2, Value.category, fi0, fi1, fi2, fi3] <;> first | rfl | exact ⟨rfl, rfl⟩) (by simp [lput1, lput2, Value.category, fi0, fi1, fi2, fi3] <;> first | rfl | exact ⟨rfl, rfl⟩)
theorem c_Ju_dur {d : Nat} (hw : WT epsilonN epsilonD wishes wants wantN wantD actions needs needTime needOf needHow needN needD changes changeTime changeOf changeHow changeN changeD lastOf lastN lastD firstN firstD) (hO : ActsOK needs needTime needOf needHow needN needD changes changeTime changeOf changeHow changeN changeD lastOf lastN lastD rest alE actions ab) (hPA : ∀ s, 0 ≤ s → s < plS → 0 ≤ plA s ∧ plA s < actions) (wS : 0 ≤ plS ∧ plS ≤ 12) (hor : ∀ i, 0 ≤ i → i < 2 * plS → 0 ≤ juO i ∧ juO i < 2 * plS) (wN : WN noN noD) (hlen : ∀ s, 0 ≤ s → s < plS → 0 < plLN s ∧ plLN s ≤ 100000000000 ∧ 0 < plLD s ∧ plLD s ≤ 1000000) {f to : Int} (hft : 0 ≤ f ∧ to ≤ 2 * plS) (hf1 : f ≤ to) : ∃ (r : Int) (x1 y1 : Int → Int), ((r = -1 ∧ ∀ i, f ≤ i → i < to → ¬ (juO i % 2 = 0 ∧ ¬ lastsOK lastOf lastN lastD noN noD (plA (juO i / 2)) (plLN (juO i / 2)) (plLD (juO i / 2)))) ∨ (∃ h, f ≤ h ∧ h < to ∧ (juO h % 2 = 0 ∧ ¬ lastsOK lastOf lastN lastD noN noD (plA (juO h / 2)) (plLN (juO h / 2)) (plLD (juO h / 2))) ∧ (∀ i, f ≤ i → i < h → ¬ (juO i % 2 = 0 ∧ ¬ lastsOK lastOf lastN lastD noN noD (plA (juO i / 2)) (plLN (juO i / 2)) (plLD (juO i / 2)))) ∧ r = juO h)) ∧ Cg false (d + 5) m_Judge_findWrongDuration [.ref 33, .ref 6, .ref 19, .int (iI f), .int (iI to)] (MC s0 s1 handN handD gT gF alE actions alM fiF fiN fiD epN epD goH goN goD plS plP plM plA plBN plBD plLN plLD plR veW veF veP vsF vsN vsD juM juP juTN juTD juO scN scD noF noN noD neF neN neD arP arB arM arU arF arR arL arT arA arS leN leD grN grD arH arLU arGU shN shD stF stN stD rest) (.inl (some (.int (iI r)))) (MC s0 s1 handN handD gT gF alE actions alM fiF fiN fiD epN epD goH goN goD plS plP plM plA plBN plBD plLN plLD plR veW veF veP vsF vsN vsD juM juP juTN juTD juO x1 y1 noF noN noD neF neN neD arP arB arM arU arF arR arL arT arA arS leN leD grN grD arH arLU arGU shN shD stF stN stD rest) := by
  rcases fst_or (fun z => (juO (z + f) % 2 = 0 ∧ ¬ lastsOK lastOf lastN lastD noN noD (plA (juO (z + f) / 2)) (plLN (juO (z + f) / 2)) (plLD (juO (z + f) / 2)))) (to - f) (by omega) with ⟨z, z1, z2, z3, z4⟩ | hno
  · have z5 : ∀ i, f ≤ i → i < z + f → ¬ (juO i % 2 = 0 ∧ ¬ lastsOK lastOf lastN lastD noN noD (plA (juO i / 2)) (plLN (juO i / 2)) (plLD (juO i / 2))) := fun i w1 w2 => by have := z4 (i - f) (by omega) (by omega); rw [show i - f + f = i by omega] at this; exact this
    obtain ⟨x1, y1, ht⟩ := dur_1 (d := d) (n0 := (MC s0 s1 handN handD gT gF alE actions alM fiF fiN fiD epN epD goH goN goD plS plP plM plA plBN plBD plLN plLD plR veW veF veP vsF vsN vsD juM juP juTN juTD juO scN scD noF noN noD neF neN neD arP arB arM arU arF arR arL arT arA arS leN leD grN grD arH arLU arGU shN shD stF stN stD rest).length) (s0 := s0) (s1 := s1) (rest := rest) (handN := handN) (handD := handD) (gT := gT) (gF := gF) (alE := alE) (alM := alM) (fiF := fiF) (fiN := fiN) (fiD := fiD) (epN := epN) (epD := epD) (goH := goH) (goN := goN) (goD := goD) (plS := plS) (plP := plP) (plM := plM) (plA := plA) (plBN := plBN) (plBD := plBD) (plLN := plLN) (plLD := plLD) (plR := plR) (veW := veW) (veF := veF) (veP := veP) (vsF := vsF) (vsN := vsN) (vsD := vsD) (juM := juM) (juP := juP) (juTN := juTN) (juTD := juTD) (juO := juO) (noF := noF) (noN := noN) (noD := noD) (neF := neF) (neN := neN) (neD := neD) (arP := arP) (arB := arB) (arM := arM) (arU := arU) (arF := arF) (arR := arR) (arL := arL) (arT := arT) (arA := arA) (arS := arS) (leN := leN) (leD := leD) (grN := grN) (grD := grD) (arH := arH) (arLU := arLU) (arGU := arGU) (shN := shN) (shD := shD) (stF := stF) (stN := stN) (stD := stD) hw hO hPA wS hor wN hlen hft (h := z + f) (by omega) z3 z.toNat f scN scD (by omega) (by omega) z5
    refine ⟨juO (z + f), x1, y1, Or.inr ⟨z + f, by omega, by omega, z3, z5, rfl⟩, ?_⟩
    refine Cg.of (Nat.le_of_ble_eq_true rfl) ?_
    change Rg _ _ _ _ 0 [(0, .ref 33), (1, .ref 6), (2, .ref 19), (3, .int (iI f)), (4, .int (iI to))] [] _ _ _
    refine Rg.step 1 F_Judge_findWrongDuration_0 rfl (fun _ => rfl) ?_
    refine Rg.step 3 F_Judge_findWrongDuration_1 rfl (fun _ => rfl) ?_
    exact Rg.weak ht (by simp [lput1, lput2, Value.category, fi0, fi1, fi2, fi3] <;> first | rfl | exact ⟨rfl, rfl⟩) (by simp [lput1, lput2, Value.category, fi0, fi1, fi2, fi3] <;> first | rfl | exact ⟨rfl, rfl⟩)
  · have z5 : ∀ i, f ≤ i → i < to → ¬ (juO i % 2 = 0 ∧ ¬ lastsOK lastOf lastN lastD noN noD (plA (juO i / 2)) (plLN (juO i / 2)) (plLD (juO i / 2))) := fun i w1 w2 => by have := hno (i - f) (by omega) (by omega); rw [show i - f + f = i by omega] at this; exact this
    obtain ⟨x1, y1, ht⟩ := dur_0 (d := d) (n0 := (MC s0 s1 handN handD gT gF alE actions alM fiF fiN fiD epN epD goH goN goD plS plP plM plA plBN plBD plLN plLD plR veW veF veP vsF vsN vsD juM juP juTN juTD juO scN scD noF noN noD neF neN neD arP arB arM arU arF arR arL arT arA arS leN leD grN grD arH arLU arGU shN shD stF stN stD rest).length) (s0 := s0) (s1 := s1) (rest := rest) (handN := handN) (handD := handD) (gT := gT) (gF := gF) (alE := alE) (alM := alM) (fiF := fiF) (fiN := fiN) (fiD := fiD) (epN := epN) (epD := epD) (goH := goH) (goN := goN) (goD := goD) (plS := plS) (plP := plP) (plM := plM) (plA := plA) (plBN := plBN) (plBD := plBD) (plLN := plLN) (plLD := plLD) (plR := plR) (veW := veW) (veF := veF) (veP := veP) (vsF := vsF) (vsN := vsN) (vsD := vsD) (juM := juM) (juP := juP) (juTN := juTN) (juTD := juTD) (juO := juO) (noF := noF) (noN := noN) (noD := noD) (neF := neF) (neN := neN) (neD := neD) (arP := arP) (arB := arB) (arM := arM) (arU := arU) (arF := arF) (arR := arR) (arL := arL) (arT := arT) (arA := arA) (arS := arS) (leN := leN) (leD := leD) (grN := grN) (grD := grD) (arH := arH) (arLU := arLU) (arGU := arGU) (shN := shN) (shD := shD) (stF := stF) (stN := stN) (stD := stD) hw hO hPA wS hor wN hlen hft (to - f).toNat f scN scD (by omega) (by omega) z5
    refine ⟨-1, x1, y1, Or.inl ⟨rfl, z5⟩, ?_⟩
    refine Cg.of (Nat.le_of_ble_eq_true rfl) ?_
    change Rg _ _ _ _ 0 [(0, .ref 33), (1, .ref 6), (2, .ref 19), (3, .int (iI f)), (4, .int (iI to))] [] _ _ _
    refine Rg.step 1 F_Judge_findWrongDuration_0 rfl (fun _ => rfl) ?_
    refine Rg.step 3 F_Judge_findWrongDuration_1 rfl (fun _ => rfl) ?_
    exact Rg.weak ht (by simp [lput1, lput2, Value.category, fi0, fi1, fi2, fi3] <;> first | rfl | exact ⟨rfl, rfl⟩) (by simp [lput1, lput2, Value.category, fi0, fi1, fi2, fi3] <;> first | rfl | exact ⟨rfl, rfl⟩)
/-- which steps are on their way -/
def OpnI (juO : Int → Int) (m : Int) (k : Int) (Mk : Int → Prop) : Prop := ∀ s, 0 ≤ s → s < m → (Mk s ↔ grp juO 0 k (2 * s) ∧ ¬ grp juO 0 k (2 * s + 1))
theorem grp_s {o : Int → Int} {f k p : Int} (h : f ≤ k) : grp o f (k + 1) p ↔ grp o f k p ∨ o k = p := by
  constructor
  · rintro ⟨i, i1, i2, i3⟩
    by_cases hi : i = k
    · exact Or.inr (hi ▸ i3)
    · exact Or.inl ⟨i, i1, by omega, i3⟩
  · rintro (⟨i, i1, i2, i3⟩ | h2)
    · exact ⟨i, i1, by omega, i3⟩
    · exact ⟨k, h, by omega, h2⟩
theorem OpnI.step {tN tD : Int → Int} {o : Int → Int} {m k : Int} {Mk : Int → Prop} (h : OpnI o m k Mk) (hs : Srt tN tD o (2 * m)) (hlt : ∀ s, 0 ≤ s → s < m → ¬ leP tN tD (2 * s + 1) (2 * s)) (hk : 0 ≤ k) (hk2 : k < 2 * m) : OpnI o m (k + 1) (fun i => Mk i ↔ ¬ i = o k / 2) := by
  have o1 := hs.1 k hk hk2
  have nk : ¬ grp o 0 k (o k) := fun ⟨i, i1, i2, i3⟩ => hs.inj i k i1 i2 hk2 i3
  intro s s0 s1
  rw [grp_s hk, grp_s hk]
  have h0 := h s s0 s1
  by_cases e : s = o k / 2
  · by_cases ev : o k % 2 = 0
    · have e2 : o k = 2 * s := by omega
      have hend : ¬ grp o 0 k (2 * s + 1) := fun ⟨i, i1, i2, i3⟩ => by
        have := (hs.2 i k i1 i2 hk2).1
        rw [i3, e2] at this
        exact hlt s s0 s1 this
      rw [e2] at nk
      constructor
      · intro _
        exact ⟨Or.inr e2, fun z => z.elim hend (fun y => by omega)⟩
      · intro _
        exact ⟨fun z => absurd (h0.mp z).1 nk, fun z => absurd e z⟩
    · have e2 : o k = 2 * s + 1 := by omega
      have hbeg : grp o 0 k (2 * s) := by
        obtain ⟨i, i1, i2, i3⟩ := hs.onto (2 * s) (by omega) (by omega)
        refine ⟨i, i1, Int.not_le.mp (fun z => ?_), i3⟩
        by_cases hik : i = k
        · rw [hik] at i3; omega
        · have := (hs.2 k i hk (by omega) i2).1
          rw [i3, e2] at this
          exact hlt s s0 s1 this
      rw [e2] at nk
      constructor
      · intro z
        exact absurd e (z.mp (h0.mpr ⟨hbeg, nk⟩))
      · rintro ⟨_, z2⟩
        exact absurd (Or.inr e2) z2
  · have n1 : ¬ o k = 2 * s := by omega
    have n2 : ¬ o k = 2 * s + 1 := by omega
    constructor
    · intro z
      have y := h0.mp (z.mpr e)
      exact ⟨Or.inl y.1, fun w => w.elim y.2 n2⟩
    · rintro ⟨z1, z2⟩
      exact ⟨fun _ => e, fun _ => h0.mpr ⟨z1.resolve_right n1, fun w => z2 (Or.inl w)⟩⟩
theorem chs_pres {changeTime changeOf changeHow changeN changeD : Int → Int} : True := trivial
theorem doc_loop {d n0 : Nat} (hw : WT epsilonN epsilonD wishes wants wantN wantD actions needs needTime needOf needHow needN needD changes changeTime changeOf changeHow changeN changeD lastOf lastN lastD firstN firstD) (hO : ActsOK needs needTime needOf needHow needN needD changes changeTime changeOf changeHow changeN changeD lastOf lastN lastD rest alE actions ab) (hPA : ∀ s, 0 ≤ s → s < plS → 0 ≤ plA s ∧ plA s < actions) (wS : 0 ≤ plS ∧ plS ≤ 12) {tN tD : Int → Int} (hs : Srt tN tD juO (2 * plS)) (hlt : ∀ s, 0 ≤ s → s < plS → ¬ leP tN tD (2 * s + 1) (2 * s)) {to : Int} (hto : to ≤ 2 * plS) (hWN : ∀ p S S1, 0 ≤ p → p < 2 * plS → WN S.2.1 S.2.2 → (fun S p => chAll changeTime changeOf changeHow changeN changeD (tmo p) (changes (plA (p / 2))).toNat (6 * plA (p / 2)) S) S p = some S1 → WN S1.2.1 S1.2.2) : ∀ (n : Nat) (k : Int) (F : Int → Prop) (N D : Int → Int) (Mk : Int → Prop), k + n = to → 0 ≤ k → WN N D → OpnI juO plS k Mk → ∃ (r : Int) (F1 : Int → Prop) (N1 D1 : Int → Int) (M1 : Int → Prop), ((∃ p, chSeq (fun S p => chAll changeTime changeOf changeHow changeN changeD (tmo p) (changes (plA (p / 2))).toNat (6 * plA (p / 2)) S) juO n k (F, N, D) = .inl p ∧ r = p ∧ 0 ≤ p ∧ p < 2 * plS) ∨ (chSeq (fun S p => chAll changeTime changeOf changeHow changeN changeD (tmo p) (changes (plA (p / 2))).toNat (6 * plA (p / 2)) S) juO n k (F, N, D) = .inr (F1, N1, D1) ∧ r = -1 ∧ WN N1 D1 ∧ OpnI juO plS to M1)) ∧ Rg false (d + 4) m_Judge_doChanges n0 14 [(5, .int (iI k)), (0, .ref 33), (1, .ref 6), (2, .ref 19), (4, .int (iI to))] [] (MC s0 s1 handN handD gT gF alE actions alM fiF fiN fiD epN epD goH goN goD plS plP plM plA plBN plBD plLN plLD plR veW veF veP vsF vsN vsD Mk juP juTN juTD juO scN scD noF noN noD F N D arP arB arM arU arF arR arL arT arA arS leN leD grN grD arH arLU arGU shN shD stF stN stD rest) (.inl (some (.int (iI r)))) (MC s0 s1 handN handD gT gF alE actions alM fiF fiN fiD epN epD goH goN goD plS plP plM plA plBN plBD plLN plLD plR veW veF veP vsF vsN vsD M1 juP juTN juTD juO scN scD noF noN noD F1 N1 D1 arP arB arM arU arF arR arL arT arA arS leN leD grN grD arH arLU arGU shN shD stF stN stD rest) := by
  obtain ⟨-, -, -, -, wA, -, -, -, -, -, -, -, -, -, -, -, -, -, -, -, -⟩ := id hw
  intro n
  induction n with
  | zero =>
    intro k F N D Mk hk hk2 wN hM
    have ek : k = to := by omega
    subst ek
    refine ⟨-1, F, N, D, Mk, Or.inr ⟨rfl, rfl, wN, hM⟩, ?_⟩
    refine Rg.step 16 F_Judge_doChanges_14 rfl (fun _ => rfl) ?_
    refine Rg.step 18 F_Judge_doChanges_16 rfl (fun _ => rfl) ?_
    refine Rg.icgeI 87 21 F_Judge_doChanges_18 rfl rfl (by omega) (by omega) (fun _ => ?_) (fun h18 => by omega)
    refine Rg.step 88 F_Judge_doChanges_87 rfl (fun _ => rfl) ?_
    exact Rg.retI F_Judge_doChanges_88 rfl rfl rfl
  | succ n ih =>
    intro k F N D Mk hk hk2 wN hM
    have o1 := hs.1 k hk2 (by omega)
    have a1 := hPA (juO k / 2) (by omega) (by omega)
    have b1 := tmo_b (juO k)
    have b2 := (hO _ a1.1 a1.2).2.1
    have m1 := act_m (s0 := s0) (s1 := s1) (rest := rest) (handN := handN) (handD := handD) (gT := gT) (gF := gF) (alE := alE) (alS := actions) (alM := alM) (fiF := fiF) (fiN := fiN) (fiD := fiD) (epN := epN) (epD := epD) (goH := goH) (goN := goN) (goD := goD) (plS := plS) (plP := plP) (plM := plM) (plA := plA) (plBN := plBN) (plBD := plBD) (plLN := plLN) (plLD := plLD) (plR := plR) (veW := veW) (veF := veF) (veP := veP) (vsF := vsF) (vsN := vsN) (vsD := vsD) (juM := Mk) (juP := juP) (juTN := juTN) (juTD := juTD) (juO := juO) (scN := scN) (scD := scD) (noF := noF) (noN := noN) (noD := noD) (neF := F) (neN := N) (neD := D) (arP := arP) (arB := arB) (arM := arM) (arU := arU) (arF := arF) (arR := arR) (arL := arL) (arT := arT) (arA := arA) (arS := arS) (leN := leN) (leD := leD) (grN := grN) (grD := grD) (arH := arH) (arLU := arLU) (arGU := arGU) (shN := shN) (shD := shD) (stF := stF) (stN := stN) (stD := stD) hO wA a1.1 a1.2
    obtain ⟨F2, N2, D2, i1, hcc⟩ := c_M_change (d := d + 1) (a := plA (juO k / 2)) (by omega) hw m1 a1 gC_45 gF_ne (by omega) (by omega) (by omega) (by decide) wN (t := tmo (juO k)) (by omega)
    have e1 : stS (MC s0 s1 handN handD gT gF alE actions alM fiF fiN fiD epN epD goH goN goD plS plP plM plA plBN plBD plLN plLD plR veW veF veP vsF vsN vsD Mk juP juTN juTD juO scN scD noF noN noD F N D arP arB arM arU arF arR arL arT arA arS leN leD grN grD arH arLU arGU shN shD stF stN stD rest) 45 46 47 48 F2 N2 D2 = (MC s0 s1 handN handD gT gF alE actions alM fiF fiN fiD epN epD goH goN goD plS plP plM plA plBN plBD plLN plLD plR veW veF veP vsF vsN vsD Mk juP juTN juTD juO scN scD noF noN noD F2 N2 D2 arP arB arM arU arF arR arL arT arA arS leN leD grN grD arH arLU arGU shN shD stF stN stD rest) := by
      unfold stS
      rw [sF_ne]
      exact sO_neF
    rw [e1] at hcc
    cases hc : chAll changeTime changeOf changeHow changeN changeD (tmo (juO k)) (changes (plA (juO k / 2))).toNat (6 * plA (juO k / 2)) (F, N, D) with
    | none =>
      have hN : ¬ ∃ S, chAll changeTime changeOf changeHow changeN changeD (tmo (juO k)) (changes (plA (juO k / 2))).toNat (6 * plA (juO k / 2)) (F, N, D) = some S := by
        rintro ⟨S, hS⟩
        have hc' : chAll changeTime changeOf changeHow changeN changeD (tmo (juO k)) (changes (plA (juO k / 2))).toNat (6 * plA (juO k / 2)) (F, N, D) = none := hc
        rw [hc'] at hS
        cases hS
      refine ⟨juO k, F2, N2, D2, Mk, Or.inl ⟨juO k, by rw [chSeq, hc], rfl, o1.1, o1.2⟩, ?_⟩
      refine Rg.step 16 F_Judge_doChanges_14 rfl (fun _ => rfl) ?_
      refine Rg.step 18 F_Judge_doChanges_16 rfl (fun _ => rfl) ?_
      refine Rg.icgeI 87 21 F_Judge_doChanges_18 rfl rfl (by omega) (by omega) (fun h18 => by omega) (fun _ => ?_)
      refine Rg.step 22 F_Judge_doChanges_21 rfl (fun _ => rfl) ?_
      refine Rg.step 23 F_Judge_doChanges_22 rfl (fun _ => rfl) ?_
      refine Rg.step 24 F_Judge_doChanges_23 rfl (fun _ => rfl) ?_
      refine Rg.getf 27 F_Judge_doChanges_24 rfl rF_12_20 gC_33 rfl ?_
      refine Rg.step 29 F_Judge_doChanges_27 rfl (fun _ => rfl) ?_
      refine Rg.ild 30 F_Judge_doChanges_29 rfl gC_37 (by omega) (by decide) ?_
      refine Rg.call 33 F_Judge_doChanges_30 rfl (one_S (by decide +kernel) rM_12_112 (by decide) (by simp) rfl rfl) (Nat.le_of_ble_eq_true rfl) (Cg.any (c_Ju_actionAt hO wA (by omega) a1)) ?_
      refine Rg.step 34 F_Judge_doChanges_33 rfl (fun _ => rfl) ?_
      refine Rg.getf 37 F_Judge_doChanges_34 rfl rF_12_34 gC_33 rfl ?_
      refine Rg.step 38 F_Judge_doChanges_37 rfl (fun _ => rfl) ?_
      refine Rg.getf 41 F_Judge_doChanges_38 rfl rF_12_20 gC_33 rfl ?_
      refine Rg.step 43 F_Judge_doChanges_41 rfl (fun _ => rfl) ?_
      refine Rg.ild 44 F_Judge_doChanges_43 rfl gC_37 (by omega) (by decide) ?_
      refine Rg.call 47 F_Judge_doChanges_44 rfl (one_S (by decide +kernel) rM_12_116 (by decide) (by simp) rfl rfl) (Nat.le_of_ble_eq_true rfl) (Cg.any (c_PJ_timeOf (by omega))) ?_
      refine Rg.call 50 F_Judge_doChanges_47 rfl (one_V rM_12_141 (by decide) (by simp) rfl rfl (actO m1) rfl) (Nat.le_of_ble_eq_true rfl) hcc ?_
      refine Rg.ifneP 61 53 F_Judge_doChanges_50 rfl rfl (fun h50 => absurd h50 hN) (fun _ => ?_)
      refine Rg.step 54 F_Judge_doChanges_53 rfl (fun _ => rfl) ?_
      refine Rg.getf 57 F_Judge_doChanges_54 rfl rF_12_20 gC_33 rfl ?_
      refine Rg.step 59 F_Judge_doChanges_57 rfl (fun _ => rfl) ?_
      refine Rg.ild 60 F_Judge_doChanges_59 rfl gC_37 (by omega) (by decide) ?_
      exact Rg.retI F_Judge_doChanges_60 rfl rfl rfl
    | some S1 =>
      have hS1 : S1 = (F2, N2, D2) := i1 S1 hc
      subst hS1
      have hY : ∃ S, chAll changeTime changeOf changeHow changeN changeD (tmo (juO k)) (changes (plA (juO k / 2))).toNat (6 * plA (juO k / 2)) (F, N, D) = some S := ⟨_, hc⟩
      obtain ⟨r, F1, N1, D1, M1, j1, ht⟩ := ih (k + 1) F2 N2 D2 (fun i => Mk i ↔ ¬ i = juO k / 2) (by omega) (by omega) (hWN (juO k) (F, N, D) (F2, N2, D2) o1.1 o1.2 wN hc) (hM.step hs hlt hk2 (by omega))
      refine ⟨r, F1, N1, D1, M1, ?_, ?_⟩
      · rw [chSeq, hc]
        exact j1
      · skip
        refine Rg.step 16 F_Judge_doChanges_14 rfl (fun _ => rfl) ?_
        refine Rg.step 18 F_Judge_doChanges_16 rfl (fun _ => rfl) ?_
        refine Rg.icgeI 87 21 F_Judge_doChanges_18 rfl rfl (by omega) (by omega) (fun h18 => by omega) (fun _ => ?_)
        refine Rg.step 22 F_Judge_doChanges_21 rfl (fun _ => rfl) ?_
        refine Rg.step 23 F_Judge_doChanges_22 rfl (fun _ => rfl) ?_
        refine Rg.step 24 F_Judge_doChanges_23 rfl (fun _ => rfl) ?_
        refine Rg.getf 27 F_Judge_doChanges_24 rfl rF_12_20 gC_33 rfl ?_
        refine Rg.step 29 F_Judge_doChanges_27 rfl (fun _ => rfl) ?_
        refine Rg.ild 30 F_Judge_doChanges_29 rfl gC_37 (by omega) (by decide) ?_
        refine Rg.call 33 F_Judge_doChanges_30 rfl (one_S (by decide +kernel) rM_12_112 (by decide) (by simp) rfl rfl) (Nat.le_of_ble_eq_true rfl) (Cg.any (c_Ju_actionAt hO wA (by omega) a1)) ?_
        refine Rg.step 34 F_Judge_doChanges_33 rfl (fun _ => rfl) ?_
        refine Rg.getf 37 F_Judge_doChanges_34 rfl rF_12_34 gC_33 rfl ?_
        refine Rg.step 38 F_Judge_doChanges_37 rfl (fun _ => rfl) ?_
        refine Rg.getf 41 F_Judge_doChanges_38 rfl rF_12_20 gC_33 rfl ?_
        refine Rg.step 43 F_Judge_doChanges_41 rfl (fun _ => rfl) ?_
        refine Rg.ild 44 F_Judge_doChanges_43 rfl gC_37 (by omega) (by decide) ?_
        refine Rg.call 47 F_Judge_doChanges_44 rfl (one_S (by decide +kernel) rM_12_116 (by decide) (by simp) rfl rfl) (Nat.le_of_ble_eq_true rfl) (Cg.any (c_PJ_timeOf (by omega))) ?_
        refine Rg.call 50 F_Judge_doChanges_47 rfl (one_V rM_12_141 (by decide) (by simp) rfl rfl (actO m1) rfl) (Nat.le_of_ble_eq_true rfl) hcc ?_
        refine Rg.ifneP 61 53 F_Judge_doChanges_50 rfl rfl (fun _ => ?_) (fun h50 => absurd hY h50)
        refine Rg.step 62 F_Judge_doChanges_61 rfl (fun _ => rfl) ?_
        refine Rg.step 63 F_Judge_doChanges_62 rfl (fun _ => rfl) ?_
        refine Rg.getf 66 F_Judge_doChanges_63 rfl rF_12_50 gC_33 rfl ?_
        refine Rg.step 67 F_Judge_doChanges_66 rfl (fun _ => rfl) ?_
        refine Rg.step 68 F_Judge_doChanges_67 rfl (fun _ => rfl) ?_
        refine Rg.getf 71 F_Judge_doChanges_68 rfl rF_12_20 gC_33 rfl ?_
        refine Rg.step 73 F_Judge_doChanges_71 rfl (fun _ => rfl) ?_
        refine Rg.ild 74 F_Judge_doChanges_73 rfl gC_37 (by omega) (by decide) ?_
        refine Rg.step 75 F_Judge_doChanges_74 rfl (fun _ => rfl) ?_
        refine Rg.divIp 76 F_Judge_doChanges_75 rfl (by omega) (by omega) ?_
        refine Rg.shlK 77 F_Judge_doChanges_76 rfl (by omega) ?_
        refine Rg.xorK 78 F_Judge_doChanges_77 rfl ?_
        refine Rg.put 81 F_Judge_doChanges_78 rfl rF_12_50 gC_33 (by decide) (Nat.le_of_ble_eq_true rfl) (Or.inl rfl) rfl sO_juM ?_
        refine Rg.inc 84 F_Judge_doChanges_81 rfl rfl (by decide) ?_
        refine Rg.step 14 F_Judge_doChanges_84 rfl (fun _ => rfl) ?_
        exact Rg.weak ht (by simp [lput1, lput2, Value.category, fi0, fi1, fi2, fi3] <;> first | rfl | exact ⟨rfl, rfl⟩) (by simp [lput1, lput2, Value.category, fi0, fi1, fi2, fi3] <;> first | rfl | exact ⟨rfl, rfl⟩)
theorem c_Ju_doChanges {d : Nat} (hw : WT epsilonN epsilonD wishes wants wantN wantD actions needs needTime needOf needHow needN needD changes changeTime changeOf changeHow changeN changeD lastOf lastN lastD firstN firstD) (hO : ActsOK needs needTime needOf needHow needN needD changes changeTime changeOf changeHow changeN changeD lastOf lastN lastD rest alE actions ab) (hPA : ∀ s, 0 ≤ s → s < plS → 0 ≤ plA s ∧ plA s < actions) (wS : 0 ≤ plS ∧ plS ≤ 12) {tN tD : Int → Int} (hs : Srt tN tD juO (2 * plS)) (hlt : ∀ s, 0 ≤ s → s < plS → ¬ leP tN tD (2 * s + 1) (2 * s)) {to : Int} (hto : to ≤ 2 * plS) (hWN : ∀ p S S1, 0 ≤ p → p < 2 * plS → WN S.2.1 S.2.2 → (fun S p => chAll changeTime changeOf changeHow changeN changeD (tmo p) (changes (plA (p / 2))).toNat (6 * plA (p / 2)) S) S p = some S1 → WN S1.2.1 S1.2.2) {f : Int} (hf : 0 ≤ f ∧ f ≤ to) (wN : WN noN noD) (hM : OpnI juO plS f juM) : ∃ (r : Int) (F1 : Int → Prop) (N1 D1 : Int → Int) (M1 : Int → Prop), ((∃ p, chSeq (fun S p => chAll changeTime changeOf changeHow changeN changeD (tmo p) (changes (plA (p / 2))).toNat (6 * plA (p / 2)) S) juO (to - f).toNat f (noF, noN, noD) = .inl p ∧ r = p ∧ 0 ≤ p ∧ p < 2 * plS) ∨ (chSeq (fun S p => chAll changeTime changeOf changeHow changeN changeD (tmo p) (changes (plA (p / 2))).toNat (6 * plA (p / 2)) S) juO (to - f).toNat f (noF, noN, noD) = .inr (F1, N1, D1) ∧ r = -1 ∧ WN N1 D1 ∧ OpnI juO plS to M1)) ∧ Cg false (d + 4) m_Judge_doChanges [.ref 33, .ref 6, .ref 19, .int (iI f), .int (iI to)] (MC s0 s1 handN handD gT gF alE actions alM fiF fiN fiD epN epD goH goN goD plS plP plM plA plBN plBD plLN plLD plR veW veF veP vsF vsN vsD juM juP juTN juTD juO scN scD noF noN noD neF neN neD arP arB arM arU arF arR arL arT arA arS leN leD grN grD arH arLU arGU shN shD stF stN stD rest) (.inl (some (.int (iI r)))) (MC s0 s1 handN handD gT gF alE actions alM fiF fiN fiD epN epD goH goN goD plS plP plM plA plBN plBD plLN plLD plR veW veF veP vsF vsN vsD M1 juP juTN juTD juO scN scD noF noN noD F1 N1 D1 arP arB arM arU arF arR arL arT arA arS leN leD grN grD arH arLU arGU shN shD stF stN stD rest) := by
  obtain ⟨r, F1, N1, D1, M1, j1, ht⟩ := doc_loop (d := d) (n0 := (MC s0 s1 handN handD gT gF alE actions alM fiF fiN fiD epN epD goH goN goD plS plP plM plA plBN plBD plLN plLD plR veW veF veP vsF vsN vsD juM juP juTN juTD juO scN scD noF noN noD neF neN neD arP arB arM arU arF arR arL arT arA arS leN leD grN grD arH arLU arGU shN shD stF stN stD rest).length) (s0 := s0) (s1 := s1) (rest := rest) (handN := handN) (handD := handD) (gT := gT) (gF := gF) (alE := alE) (alM := alM) (fiF := fiF) (fiN := fiN) (fiD := fiD) (epN := epN) (epD := epD) (goH := goH) (goN := goN) (goD := goD) (plS := plS) (plP := plP) (plM := plM) (plA := plA) (plBN := plBN) (plBD := plBD) (plLN := plLN) (plLD := plLD) (plR := plR) (veW := veW) (veF := veF) (veP := veP) (vsF := vsF) (vsN := vsN) (vsD := vsD) (juP := juP) (juTN := juTN) (juTD := juTD) (juO := juO) (scN := scN) (scD := scD) (noF := noF) (noN := noN) (noD := noD) (arP := arP) (arB := arB) (arM := arM) (arU := arU) (arF := arF) (arR := arR) (arL := arL) (arT := arT) (arA := arA) (arS := arS) (leN := leN) (leD := leD) (grN := grN) (grD := grD) (arH := arH) (arLU := arLU) (arGU := arGU) (shN := shN) (shD := shD) (stF := stF) (stN := stN) (stD := stD) hw hO hPA wS hs hlt hto hWN (to - f).toNat f noF noN noD juM (by omega) (by omega) wN hM
  refine ⟨r, F1, N1, D1, M1, j1, ?_⟩
  have hcf := c_State_copyFrom (d := d + 2) (mem := (MC s0 s1 handN handD gT gF alE actions alM fiF fiN fiD epN epD goH goN goD plS plP plM plA plBN plBD plLN plLD plR veW veF veP vsF vsN vsD juM juP juTN juTD juO scN scD noF noN noD neF neN neD arP arB arM arU arF arR arL arT arA arS leN leD grN grD arH arLU arGU shN shD stF stN stD rest)) gC_45 gF_ne gC_41 gF_no (by decide) (by decide) (by decide)
  have e1 : stS (MC s0 s1 handN handD gT gF alE actions alM fiF fiN fiD epN epD goH goN goD plS plP plM plA plBN plBD plLN plLD plR veW veF veP vsF vsN vsD juM juP juTN juTD juO scN scD noF noN noD neF neN neD arP arB arM arU arF arR arL arT arA arS leN leD grN grD arH arLU arGU shN shD stF stN stD rest) 45 46 47 48 noF noN noD = (MC s0 s1 handN handD gT gF alE actions alM fiF fiN fiD epN epD goH goN goD plS plP plM plA plBN plBD plLN plLD plR veW veF veP vsF vsN vsD juM juP juTN juTD juO scN scD noF noN noD noF noN noD arP arB arM arU arF arR arL arT arA arS leN leD grN grD arH arLU arGU shN shD stF stN stD rest) := by
    unfold stS
    rw [sF_ne]
    exact sO_neF
  rw [e1] at hcf
  refine Cg.of (Nat.le_of_ble_eq_true rfl) ?_
  change Rg _ _ _ _ 0 [(0, .ref 33), (1, .ref 6), (2, .ref 19), (3, .int (iI f)), (4, .int (iI to))] [] _ _ _
  refine Rg.step 1 F_Judge_doChanges_0 rfl (fun _ => rfl) ?_
  refine Rg.getf 4 F_Judge_doChanges_1 rfl rF_12_34 gC_33 rfl ?_
  refine Rg.step 5 F_Judge_doChanges_4 rfl (fun _ => rfl) ?_
  refine Rg.getf 8 F_Judge_doChanges_5 rfl rF_12_30 gC_33 rfl ?_
  refine Rg.call 11 F_Judge_doChanges_8 rfl (one_V rM_12_46 (by decide) (by simp) rfl rfl gC_45 rfl) (Nat.le_of_ble_eq_true rfl) hcf ?_
  refine Rg.step 12 F_Judge_doChanges_11 rfl (fun _ => rfl) ?_
  refine Rg.step 14 F_Judge_doChanges_12 rfl (fun _ => rfl) ?_
  exact Rg.weak ht (by simp [lput1, lput2, Value.category, fi0, fi1, fi2, fi3] <;> first | rfl | exact ⟨rfl, rfl⟩) (by simp [lput1, lput2, Value.category, fi0, fi1, fi2, fi3] <;> first | rfl | exact ⟨rfl, rfl⟩)
theorem all_0 {d n0 : Nat} (hw : WT epsilonN epsilonD wishes wants wantN wantD actions needs needTime needOf needHow needN needD changes changeTime changeOf changeHow changeN changeD lastOf lastN lastD firstN firstD) (hO : ActsOK needs needTime needOf needHow needN needD changes changeTime changeOf changeHow changeN changeD lastOf lastN lastD rest alE actions ab) (hPA : ∀ s, 0 ≤ s → s < plS → 0 ≤ plA s ∧ plA s < actions) (wS : 0 ≤ plS ∧ plS ≤ 12) (wN : WN noN noD) : ∀ (n : Nat) (k : Int), k + n = plS → 0 ≤ k → (∀ i, k ≤ i → i < plS → ¬ (juM i ∧ ¬ fit needs needTime needOf needHow needN needD noF noN noD (plA i) 1)) → Rg true (d + 4) m_Judge_findUnmetAllOver n0 2 [(3, .int (iI k)), (0, .ref 33), (1, .ref 6), (2, .ref 19)] [] (MC s0 s1 handN handD gT gF alE actions alM fiF fiN fiD epN epD goH goN goD plS plP plM plA plBN plBD plLN plLD plR veW veF veP vsF vsN vsD juM juP juTN juTD juO scN scD noF noN noD neF neN neD arP arB arM arU arF arR arL arT arA arS leN leD grN grD arH arLU arGU shN shD stF stN stD rest) (.inl (some (.int (iI (-1))))) (MC s0 s1 handN handD gT gF alE actions alM fiF fiN fiD epN epD goH goN goD plS plP plM plA plBN plBD plLN plLD plR veW veF veP vsF vsN vsD juM juP juTN juTD juO scN scD noF noN noD neF neN neD arP arB arM arU arF arR arL arT arA arS leN leD grN grD arH arLU arGU shN shD stF stN stD rest) := by
  obtain ⟨-, -, -, -, wA, -, -, -, -, -, -, -, -, -, -, -, -, -, -, -, -⟩ := id hw
  intro n
  induction n with
  | zero =>
    intro k hk hk2 hn
    refine Rg.step 3 F_Judge_findUnmetAllOver_2 rfl (fun _ => rfl) ?_
    refine Rg.step 4 F_Judge_findUnmetAllOver_3 rfl (fun _ => rfl) ?_
    refine Rg.getf 7 F_Judge_findUnmetAllOver_4 rfl rF_12_54 gC_19 rfl ?_
    refine Rg.icgeI 50 10 F_Judge_findUnmetAllOver_7 rfl rfl (by omega) (by omega) (fun _ => ?_) (fun h7 => by omega)
    refine Rg.step 51 F_Judge_findUnmetAllOver_50 rfl (fun _ => rfl) ?_
    exact Rg.retI F_Judge_findUnmetAllOver_51 rfl rfl rfl
  | succ n ih =>
    intro k hk hk2 hn
    have hk3 := hn k (by omega) (by omega)
    have a1 := hPA k (by omega) (by omega)
    have ek2 : 2 * k / 2 = k := by omega
    have m1 := act_m (s0 := s0) (s1 := s1) (rest := rest) (handN := handN) (handD := handD) (gT := gT) (gF := gF) (alE := alE) (alS := actions) (alM := alM) (fiF := fiF) (fiN := fiN) (fiD := fiD) (epN := epN) (epD := epD) (goH := goH) (goN := goN) (goD := goD) (plS := plS) (plP := plP) (plM := plM) (plA := plA) (plBN := plBN) (plBD := plBD) (plLN := plLN) (plLD := plLD) (plR := plR) (veW := veW) (veF := veF) (veP := veP) (vsF := vsF) (vsN := vsN) (vsD := vsD) (juM := juM) (juP := juP) (juTN := juTN) (juTD := juTD) (juO := juO) (scN := scN) (scD := scD) (noF := noF) (noN := noN) (noD := noD) (neF := neF) (neN := neN) (neD := neD) (arP := arP) (arB := arB) (arM := arM) (arU := arU) (arF := arF) (arR := arR) (arL := arL) (arT := arT) (arA := arA) (arS := arS) (leN := leN) (leD := leD) (grN := grN) (grD := grD) (arH := arH) (arLU := arLU) (arGU := arGU) (shN := shN) (shD := shD) (stF := stF) (stN := stN) (stD := stD) hO wA a1.1 a1.2
    refine Rg.step 3 F_Judge_findUnmetAllOver_2 rfl (fun _ => rfl) ?_
    refine Rg.step 4 F_Judge_findUnmetAllOver_3 rfl (fun _ => rfl) ?_
    refine Rg.getf 7 F_Judge_findUnmetAllOver_4 rfl rF_12_54 gC_19 rfl ?_
    refine Rg.icgeI 50 10 F_Judge_findUnmetAllOver_7 rfl rfl (by omega) (by omega) (fun h7 => by omega) (fun _ => ?_)
    refine Rg.step 11 F_Judge_findUnmetAllOver_10 rfl (fun _ => rfl) ?_
    refine Rg.getf 14 F_Judge_findUnmetAllOver_11 rfl rF_12_50 gC_33 rfl ?_
    refine Rg.step 15 F_Judge_findUnmetAllOver_14 rfl (fun _ => rfl) ?_
    refine Rg.shrK 16 F_Judge_findUnmetAllOver_15 rfl (by omega) ?_
    refine Rg.step 17 F_Judge_findUnmetAllOver_16 rfl (fun _ => rfl) ?_
    refine Rg.and1 18 F_Judge_findUnmetAllOver_17 rfl ?_
    refine Rg.ifeqT 44 21 F_Judge_findUnmetAllOver_18 rfl rfl (by omega) (fun h18 => ?_) (fun h18 => ?_)
    · refine Rg.inc 47 F_Judge_findUnmetAllOver_44 rfl rfl (by decide) ?_
      refine Rg.step 2 F_Judge_findUnmetAllOver_47 rfl (fun _ => rfl) ?_
      exact Rg.weak (ih (k + 1) (by omega) (by omega) (fun i z1 z2 => hn i (by omega) z2)) (by simp [lput1, lput2, Value.category, fi0, fi1, fi2, fi3] <;> first | rfl | exact ⟨rfl, rfl⟩) (by simp [lput1, lput2, Value.category, fi0, fi1, fi2, fi3] <;> first | rfl | exact ⟨rfl, rfl⟩)
    · refine Rg.step 22 F_Judge_findUnmetAllOver_21 rfl (fun _ => rfl) ?_
      refine Rg.step 23 F_Judge_findUnmetAllOver_22 rfl (fun _ => rfl) ?_
      refine Rg.step 24 F_Judge_findUnmetAllOver_23 rfl (fun _ => rfl) ?_
      refine Rg.step 25 F_Judge_findUnmetAllOver_24 rfl (fun _ => rfl) ?_
      refine Rg.mulI 26 F_Judge_findUnmetAllOver_25 rfl ?_
      refine Rg.call 29 F_Judge_findUnmetAllOver_26 rfl (one_S (by decide +kernel) rM_12_112 (by decide) (by simp) rfl rfl) (Nat.le_of_ble_eq_true rfl) (Cg.any (c_Ju_actionAt hO wA (by omega) (by rw [ek2]; exact a1))) ?_
      rw [ek2]
      refine Rg.step 30 F_Judge_findUnmetAllOver_29 rfl (fun _ => rfl) ?_
      refine Rg.getf 33 F_Judge_findUnmetAllOver_30 rfl rF_12_30 gC_33 rfl ?_
      refine Rg.step 34 F_Judge_findUnmetAllOver_33 rfl (fun _ => rfl) ?_
      refine Rg.call 37 F_Judge_findUnmetAllOver_34 rfl (one_V rM_12_129 (by decide) (by simp) rfl rfl (actO m1) rfl) (Nat.le_of_ble_eq_true rfl) (Cg.any (c_M_isMet (by have := (hO _ a1.1 a1.2).2.1; omega) hw m1 a1 gC_41 gF_no wN (by omega))) ?_
      refine Rg.ifneP 44 40 F_Judge_findUnmetAllOver_37 rfl rfl (fun _ => ?_) (fun h37 => absurd ⟨h18, h37⟩ hk3)
      refine Rg.inc 47 F_Judge_findUnmetAllOver_44 rfl rfl (by decide) ?_
      refine Rg.step 2 F_Judge_findUnmetAllOver_47 rfl (fun _ => rfl) ?_
      exact Rg.weak (ih (k + 1) (by omega) (by omega) (fun i z1 z2 => hn i (by omega) z2)) (by simp [lput1, lput2, Value.category, fi0, fi1, fi2, fi3] <;> first | rfl | exact ⟨rfl, rfl⟩) (by simp [lput1, lput2, Value.category, fi0, fi1, fi2, fi3] <;> first | rfl | exact ⟨rfl, rfl⟩)
theorem all_1 {d n0 : Nat} (hw : WT epsilonN epsilonD wishes wants wantN wantD actions needs needTime needOf needHow needN needD changes changeTime changeOf changeHow changeN changeD lastOf lastN lastD firstN firstD) (hO : ActsOK needs needTime needOf needHow needN needD changes changeTime changeOf changeHow changeN changeD lastOf lastN lastD rest alE actions ab) (hPA : ∀ s, 0 ≤ s → s < plS → 0 ≤ plA s ∧ plA s < actions) (wS : 0 ≤ plS ∧ plS ≤ 12) (wN : WN noN noD) {h : Int} (hh : h < plS) (hB : (juM h ∧ ¬ fit needs needTime needOf needHow needN needD noF noN noD (plA h) 1)) : ∀ (n : Nat) (k : Int), k + n = h → 0 ≤ k → (∀ i, k ≤ i → i < h → ¬ (juM i ∧ ¬ fit needs needTime needOf needHow needN needD noF noN noD (plA i) 1)) → Rg true (d + 4) m_Judge_findUnmetAllOver n0 2 [(3, .int (iI k)), (0, .ref 33), (1, .ref 6), (2, .ref 19)] [] (MC s0 s1 handN handD gT gF alE actions alM fiF fiN fiD epN epD goH goN goD plS plP plM plA plBN plBD plLN plLD plR veW veF veP vsF vsN vsD juM juP juTN juTD juO scN scD noF noN noD neF neN neD arP arB arM arU arF arR arL arT arA arS leN leD grN grD arH arLU arGU shN shD stF stN stD rest) (.inl (some (.int (iI (2 * h))))) (MC s0 s1 handN handD gT gF alE actions alM fiF fiN fiD epN epD goH goN goD plS plP plM plA plBN plBD plLN plLD plR veW veF veP vsF vsN vsD juM juP juTN juTD juO scN scD noF noN noD neF neN neD arP arB arM arU arF arR arL arT arA arS leN leD grN grD arH arLU arGU shN shD stF stN stD rest) := by
  obtain ⟨-, -, -, -, wA, -, -, -, -, -, -, -, -, -, -, -, -, -, -, -, -⟩ := id hw
  intro n
  induction n with
  | zero =>
    intro k hk hk2 hn
    have ek : k = h := by omega
    subst ek
    have a1 := hPA k (by omega) (by omega)
    have ek2 : 2 * k / 2 = k := by omega
    have m1 := act_m (s0 := s0) (s1 := s1) (rest := rest) (handN := handN) (handD := handD) (gT := gT) (gF := gF) (alE := alE) (alS := actions) (alM := alM) (fiF := fiF) (fiN := fiN) (fiD := fiD) (epN := epN) (epD := epD) (goH := goH) (goN := goN) (goD := goD) (plS := plS) (plP := plP) (plM := plM) (plA := plA) (plBN := plBN) (plBD := plBD) (plLN := plLN) (plLD := plLD) (plR := plR) (veW := veW) (veF := veF) (veP := veP) (vsF := vsF) (vsN := vsN) (vsD := vsD) (juM := juM) (juP := juP) (juTN := juTN) (juTD := juTD) (juO := juO) (scN := scN) (scD := scD) (noF := noF) (noN := noN) (noD := noD) (neF := neF) (neN := neN) (neD := neD) (arP := arP) (arB := arB) (arM := arM) (arU := arU) (arF := arF) (arR := arR) (arL := arL) (arT := arT) (arA := arA) (arS := arS) (leN := leN) (leD := leD) (grN := grN) (grD := grD) (arH := arH) (arLU := arLU) (arGU := arGU) (shN := shN) (shD := shD) (stF := stF) (stN := stN) (stD := stD) hO wA a1.1 a1.2
    refine Rg.step 3 F_Judge_findUnmetAllOver_2 rfl (fun _ => rfl) ?_
    refine Rg.step 4 F_Judge_findUnmetAllOver_3 rfl (fun _ => rfl) ?_
    refine Rg.getf 7 F_Judge_findUnmetAllOver_4 rfl rF_12_54 gC_19 rfl ?_
    refine Rg.icgeI 50 10 F_Judge_findUnmetAllOver_7 rfl rfl (by omega) (by omega) (fun h7 => by omega) (fun _ => ?_)
    refine Rg.step 11 F_Judge_findUnmetAllOver_10 rfl (fun _ => rfl) ?_
    refine Rg.getf 14 F_Judge_findUnmetAllOver_11 rfl rF_12_50 gC_33 rfl ?_
    refine Rg.step 15 F_Judge_findUnmetAllOver_14 rfl (fun _ => rfl) ?_
    refine Rg.shrK 16 F_Judge_findUnmetAllOver_15 rfl (by omega) ?_
    refine Rg.step 17 F_Judge_findUnmetAllOver_16 rfl (fun _ => rfl) ?_
    refine Rg.and1 18 F_Judge_findUnmetAllOver_17 rfl ?_
    refine Rg.ifeqT 44 21 F_Judge_findUnmetAllOver_18 rfl rfl (by omega) (fun h18 => absurd hB.1 h18) (fun _ => ?_)
    refine Rg.step 22 F_Judge_findUnmetAllOver_21 rfl (fun _ => rfl) ?_
    refine Rg.step 23 F_Judge_findUnmetAllOver_22 rfl (fun _ => rfl) ?_
    refine Rg.step 24 F_Judge_findUnmetAllOver_23 rfl (fun _ => rfl) ?_
    refine Rg.step 25 F_Judge_findUnmetAllOver_24 rfl (fun _ => rfl) ?_
    refine Rg.mulI 26 F_Judge_findUnmetAllOver_25 rfl ?_
    refine Rg.call 29 F_Judge_findUnmetAllOver_26 rfl (one_S (by decide +kernel) rM_12_112 (by decide) (by simp) rfl rfl) (Nat.le_of_ble_eq_true rfl) (Cg.any (c_Ju_actionAt hO wA (by omega) (by rw [ek2]; exact a1))) ?_
    rw [ek2]
    refine Rg.step 30 F_Judge_findUnmetAllOver_29 rfl (fun _ => rfl) ?_
    refine Rg.getf 33 F_Judge_findUnmetAllOver_30 rfl rF_12_30 gC_33 rfl ?_
    refine Rg.step 34 F_Judge_findUnmetAllOver_33 rfl (fun _ => rfl) ?_
    refine Rg.call 37 F_Judge_findUnmetAllOver_34 rfl (one_V rM_12_129 (by decide) (by simp) rfl rfl (actO m1) rfl) (Nat.le_of_ble_eq_true rfl) (Cg.any (c_M_isMet (by have := (hO _ a1.1 a1.2).2.1; omega) hw m1 a1 gC_41 gF_no wN (by omega))) ?_
    refine Rg.ifneP 44 40 F_Judge_findUnmetAllOver_37 rfl rfl (fun h37 => absurd h37 hB.2) (fun _ => ?_)
    refine Rg.step 41 F_Judge_findUnmetAllOver_40 rfl (fun _ => rfl) ?_
    refine Rg.step 42 F_Judge_findUnmetAllOver_41 rfl (fun _ => rfl) ?_
    refine Rg.mulI 43 F_Judge_findUnmetAllOver_42 rfl ?_
    exact Rg.retI F_Judge_findUnmetAllOver_43 rfl rfl rfl
  | succ n ih =>
    intro k hk hk2 hn
    have hk3 := hn k (by omega) (by omega)
    have a1 := hPA k (by omega) (by omega)
    have ek2 : 2 * k / 2 = k := by omega
    have m1 := act_m (s0 := s0) (s1 := s1) (rest := rest) (handN := handN) (handD := handD) (gT := gT) (gF := gF) (alE := alE) (alS := actions) (alM := alM) (fiF := fiF) (fiN := fiN) (fiD := fiD) (epN := epN) (epD := epD) (goH := goH) (goN := goN) (goD := goD) (plS := plS) (plP := plP) (plM := plM) (plA := plA) (plBN := plBN) (plBD := plBD) (plLN := plLN) (plLD := plLD) (plR := plR) (veW := veW) (veF := veF) (veP := veP) (vsF := vsF) (vsN := vsN) (vsD := vsD) (juM := juM) (juP := juP) (juTN := juTN) (juTD := juTD) (juO := juO) (scN := scN) (scD := scD) (noF := noF) (noN := noN) (noD := noD) (neF := neF) (neN := neN) (neD := neD) (arP := arP) (arB := arB) (arM := arM) (arU := arU) (arF := arF) (arR := arR) (arL := arL) (arT := arT) (arA := arA) (arS := arS) (leN := leN) (leD := leD) (grN := grN) (grD := grD) (arH := arH) (arLU := arLU) (arGU := arGU) (shN := shN) (shD := shD) (stF := stF) (stN := stN) (stD := stD) hO wA a1.1 a1.2
    refine Rg.step 3 F_Judge_findUnmetAllOver_2 rfl (fun _ => rfl) ?_
    refine Rg.step 4 F_Judge_findUnmetAllOver_3 rfl (fun _ => rfl) ?_
    refine Rg.getf 7 F_Judge_findUnmetAllOver_4 rfl rF_12_54 gC_19 rfl ?_
    refine Rg.icgeI 50 10 F_Judge_findUnmetAllOver_7 rfl rfl (by omega) (by omega) (fun h7 => by omega) (fun _ => ?_)
    refine Rg.step 11 F_Judge_findUnmetAllOver_10 rfl (fun _ => rfl) ?_
    refine Rg.getf 14 F_Judge_findUnmetAllOver_11 rfl rF_12_50 gC_33 rfl ?_
    refine Rg.step 15 F_Judge_findUnmetAllOver_14 rfl (fun _ => rfl) ?_
    refine Rg.shrK 16 F_Judge_findUnmetAllOver_15 rfl (by omega) ?_
    refine Rg.step 17 F_Judge_findUnmetAllOver_16 rfl (fun _ => rfl) ?_
    refine Rg.and1 18 F_Judge_findUnmetAllOver_17 rfl ?_
    refine Rg.ifeqT 44 21 F_Judge_findUnmetAllOver_18 rfl rfl (by omega) (fun h18 => ?_) (fun h18 => ?_)
    · refine Rg.inc 47 F_Judge_findUnmetAllOver_44 rfl rfl (by decide) ?_
      refine Rg.step 2 F_Judge_findUnmetAllOver_47 rfl (fun _ => rfl) ?_
      exact Rg.weak (ih (k + 1) (by omega) (by omega) (fun i z1 z2 => hn i (by omega) z2)) (by simp [lput1, lput2, Value.category, fi0, fi1, fi2, fi3] <;> first | rfl | exact ⟨rfl, rfl⟩) (by simp [lput1, lput2, Value.category, fi0, fi1, fi2, fi3] <;> first | rfl | exact ⟨rfl, rfl⟩)
    · refine Rg.step 22 F_Judge_findUnmetAllOver_21 rfl (fun _ => rfl) ?_
      refine Rg.step 23 F_Judge_findUnmetAllOver_22 rfl (fun _ => rfl) ?_
      refine Rg.step 24 F_Judge_findUnmetAllOver_23 rfl (fun _ => rfl) ?_
      refine Rg.step 25 F_Judge_findUnmetAllOver_24 rfl (fun _ => rfl) ?_
      refine Rg.mulI 26 F_Judge_findUnmetAllOver_25 rfl ?_
      refine Rg.call 29 F_Judge_findUnmetAllOver_26 rfl (one_S (by decide +kernel) rM_12_112 (by decide) (by simp) rfl rfl) (Nat.le_of_ble_eq_true rfl) (Cg.any (c_Ju_actionAt hO wA (by omega) (by rw [ek2]; exact a1))) ?_
      rw [ek2]
      refine Rg.step 30 F_Judge_findUnmetAllOver_29 rfl (fun _ => rfl) ?_
      refine Rg.getf 33 F_Judge_findUnmetAllOver_30 rfl rF_12_30 gC_33 rfl ?_
      refine Rg.step 34 F_Judge_findUnmetAllOver_33 rfl (fun _ => rfl) ?_
      refine Rg.call 37 F_Judge_findUnmetAllOver_34 rfl (one_V rM_12_129 (by decide) (by simp) rfl rfl (actO m1) rfl) (Nat.le_of_ble_eq_true rfl) (Cg.any (c_M_isMet (by have := (hO _ a1.1 a1.2).2.1; omega) hw m1 a1 gC_41 gF_no wN (by omega))) ?_
      refine Rg.ifneP 44 40 F_Judge_findUnmetAllOver_37 rfl rfl (fun _ => ?_) (fun h37 => absurd ⟨h18, h37⟩ hk3)
      refine Rg.inc 47 F_Judge_findUnmetAllOver_44 rfl rfl (by decide) ?_
      refine Rg.step 2 F_Judge_findUnmetAllOver_47 rfl (fun _ => rfl) ?_
      exact Rg.weak (ih (k + 1) (by omega) (by omega) (fun i z1 z2 => hn i (by omega) z2)) (by simp [lput1, lput2, Value.category, fi0, fi1, fi2, fi3] <;> first | rfl | exact ⟨rfl, rfl⟩) (by simp [lput1, lput2, Value.category, fi0, fi1, fi2, fi3] <;> first | rfl | exact ⟨rfl, rfl⟩)
theorem c_Ju_all {d : Nat} (hw : WT epsilonN epsilonD wishes wants wantN wantD actions needs needTime needOf needHow needN needD changes changeTime changeOf changeHow changeN changeD lastOf lastN lastD firstN firstD) (hO : ActsOK needs needTime needOf needHow needN needD changes changeTime changeOf changeHow changeN changeD lastOf lastN lastD rest alE actions ab) (hPA : ∀ s, 0 ≤ s → s < plS → 0 ≤ plA s ∧ plA s < actions) (wS : 0 ≤ plS ∧ plS ≤ 12) (wN : WN noN noD) : ∃ r : Int, ((r = -1 ∧ ∀ s, 0 ≤ s → s < plS → ¬ (juM s ∧ ¬ fit needs needTime needOf needHow needN needD noF noN noD (plA s) 1)) ∨ (∃ h, 0 ≤ h ∧ h < plS ∧ (juM h ∧ ¬ fit needs needTime needOf needHow needN needD noF noN noD (plA h) 1) ∧ (∀ s, 0 ≤ s → s < h → ¬ (juM s ∧ ¬ fit needs needTime needOf needHow needN needD noF noN noD (plA s) 1)) ∧ r = 2 * h)) ∧ Cg true (d + 4) m_Judge_findUnmetAllOver [.ref 33, .ref 6, .ref 19] (MC s0 s1 handN handD gT gF alE actions alM fiF fiN fiD epN epD goH goN goD plS plP plM plA plBN plBD plLN plLD plR veW veF veP vsF vsN vsD juM juP juTN juTD juO scN scD noF noN noD neF neN neD arP arB arM arU arF arR arL arT arA arS leN leD grN grD arH arLU arGU shN shD stF stN stD rest) (.inl (some (.int (iI r)))) (MC s0 s1 handN handD gT gF alE actions alM fiF fiN fiD epN epD goH goN goD plS plP plM plA plBN plBD plLN plLD plR veW veF veP vsF vsN vsD juM juP juTN juTD juO scN scD noF noN noD neF neN neD arP arB arM arU arF arR arL arT arA arS leN leD grN grD arH arLU arGU shN shD stF stN stD rest) := by
  rcases fst_or (fun s => (juM s ∧ ¬ fit needs needTime needOf needHow needN needD noF noN noD (plA s) 1)) plS (by omega) with ⟨h, z1, z2, z3, z4⟩ | hno
  · refine ⟨2 * h, Or.inr ⟨h, z1, z2, z3, z4, rfl⟩, ?_⟩
    refine Cg.of (Nat.le_of_ble_eq_true rfl) ?_
    change Rg _ _ _ _ 0 [(0, .ref 33), (1, .ref 6), (2, .ref 19)] [] _ _ _
    refine Rg.step 1 F_Judge_findUnmetAllOver_0 rfl (fun _ => rfl) ?_
    refine Rg.step 2 F_Judge_findUnmetAllOver_1 rfl (fun _ => rfl) ?_
    exact Rg.weak (all_1 hw hO hPA wS wN z2 z3 h.toNat 0 (by omega) (by omega) z4) (by simp [lput1, lput2, Value.category, fi0, fi1, fi2, fi3] <;> first | rfl | exact ⟨rfl, rfl⟩) (by simp [lput1, lput2, Value.category, fi0, fi1, fi2, fi3] <;> first | rfl | exact ⟨rfl, rfl⟩)
  · refine ⟨-1, Or.inl ⟨rfl, hno⟩, ?_⟩
    refine Cg.of (Nat.le_of_ble_eq_true rfl) ?_
    change Rg _ _ _ _ 0 [(0, .ref 33), (1, .ref 6), (2, .ref 19)] [] _ _ _
    refine Rg.step 1 F_Judge_findUnmetAllOver_0 rfl (fun _ => rfl) ?_
    refine Rg.step 2 F_Judge_findUnmetAllOver_1 rfl (fun _ => rfl) ?_
    exact Rg.weak (all_0 hw hO hPA wS wN plS.toNat 0 (by omega) (by omega) hno) (by simp [lput1, lput2, Value.category, fi0, fi1, fi2, fi3] <;> first | rfl | exact ⟨rfl, rfl⟩) (by simp [lput1, lput2, Value.category, fi0, fi1, fi2, fi3] <;> first | rfl | exact ⟨rfl, rfl⟩)
end R70
