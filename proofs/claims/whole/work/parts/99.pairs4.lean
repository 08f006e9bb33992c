/-! Pairs of calls: judge, arrange, seek. -/
theorem mix_all {α : Type} {f g : Int → α} {P : α → Prop} {k : Int} (hf : ∀ s, P (f s)) (hg : ∀ s, P (g s)) : ∀ s, P (mix k f g s) := fun s => by
  unfold mix
  split
  · exact hf s
  · exact hg s
theorem mix_mix {α : Type} {f g : Int → α} {k : Int} : mix k (mix k f g) f = f := by
  funext z
  unfold mix
  by_cases h : z < k
  · rw [if_pos h, if_pos h]
  · rw [if_neg h]
section R99
variable {alM juP arP arB arU arF : Int}
variable {handN handD epN epD plA plBN plBD plLN plLD plR vsN vsD juTN juTD juO scN scD noN noD neN neD arR arL arT arA arS leN leD grN grD arLU arGU shN shD : Int → Int}
variable {stN stD : Int → Int → Int}
variable {stF : Int → Int → Prop}
variable {gT gF plM vsF juM noF neF arM arH : Int → Prop}
variable {alE : Nat}
variable {code amountN amountD momentN momentD epsilonN epsilonD actions steps rows tried triedRows unit point judged fault faultPoint outN outD : Int}
variable {firstN firstD wishes wants wantN wantD needs needTime needOf needHow needN needD changes changeTime changeOf changeHow changeN changeD lastOf lastN lastD stepAction startN startD lengthN lengthD row triedAction triedRow times numN numD oldN oldD toldN toldD pointN pointD leastN leastD greatestN greatestD events : Int → Int}
variable {firstFacts facts oldFacts toldFacts gone now : Int → Prop}
variable {s0 : AC} {n : Nat} {mem post : AM} {ab : Int → Nat} {x : Int64}
theorem p_judge (h : INV s0 n mem) : PairN s0 n mem m_PJ_judge m_Mo_judge [.ref 2] [.ref 168] (fun o => ∃ b : Int32, o = some (.int b)) := by
  refine h _ ?_
  clear h
  intro handN handD gT gF alE alM epN epD plM plA plBN plBD plLN plLD plR vsF vsN vsD juM juP juTN juTD juO scN scD noF noN noD neF neN neD arP arB arM arU arF arR arL arT arA arS leN leD grN grD arH arLU arGU shN shD stF stN stD code amountN amountD momentN momentD epsilonN epsilonD firstFacts firstN firstD wishes wants wantN wantD actions needs needTime needOf needHow needN needD changes changeTime changeOf changeHow changeN changeD lastOf lastN lastD steps stepAction startN startD lengthN lengthD rows row tried triedAction triedRows triedRow times unit facts numN numD oldFacts oldN oldD point judged fault faultPoint toldFacts toldN toldD outN outD pointN pointD gone now leastN leastD greatestN greatestD events ab post x he rH rA rG rM rE rEg rT rN hw rS rR rB rP rU rL rX rO rQ rK rI rV rY hO hD hL hn
  subst he
  obtain ⟨rfl, rfl, rfl, rfl⟩ := rH
  have hO1 := acts_mv (rest1 := ((encR code (handN 0) (handD 0) (handN 1) (handD 1) epsilonN epsilonD firstFacts firstN firstD wishes wants wantN wantD actions needs needTime needOf needHow needN needD changes changeTime changeOf changeHow changeN changeD lastOf lastN lastD steps stepAction startN startD lengthN lengthD rows row tried triedAction triedRows triedRow times unit facts numN numD oldFacts oldN oldD point judged fault faultPoint toldFacts toldN toldD outN outD pointN pointD gone now leastN leastD greatestN greatestD events) ++ (OUTC x :: post))) hO (ali_E hL) mv_zr
  have hPA : ∀ s, 0 ≤ s → s < steps → 0 ≤ plA s ∧ plA s < actions := fun s s1 s2 => by rw [(rP s s1 s2).1]; exact (rP s s1 s2).2
  have hA : ∀ s, 0 ≤ s → s < steps → 0 ≤ stepAction s ∧ stepAction s < actions := fun s s1 s2 => (rP s s1 s2).2
  have hTA : ∀ s, 0 ≤ s → s < steps → plA s = mix steps stepAction triedAction s := fun s s1 s2 => by rw [mix_lt _ _ s2]; exact (rP s s1 s2).1
  have wF : WN firstN firstD := fun k => by have := hw.2.2.2.2.2.2.2.2.2.2.2.2.2.2.2.2.2.2.2.2 k; omega
  obtain ⟨why, pt, V, ord, juP1, scN1, scD1, noF1, noN1, noD1, neF1, neN1, neD1, juM1, hJ, wN, hwb, hen, hc⟩ := c_PJ_judge (d := 22) (s0 := s0) (s1 := (.inl (.object "java/lang/Object", []))) (rest := ((encR code (handN 0) (handD 0) (handN 1) (handD 1) epsilonN epsilonD firstFacts firstN firstD wishes wants wantN wantD actions needs needTime needOf needHow needN needD changes changeTime changeOf changeHow changeN changeD lastOf lastN lastD steps stepAction startN startD lengthN lengthD rows row tried triedAction triedRows triedRow times unit facts numN numD oldFacts oldN oldD point judged fault faultPoint toldFacts toldN toldD outN outD pointN pointD gone now leastN leastD greatestN greatestD events) ++ (OUTC x :: post))) (handN := handN) (handD := handD) (gT := gT) (gF := gF) (alE := alE) (alM := alM) (fiF := firstFacts) (fiN := firstN) (fiD := firstD) (epN := epN) (epD := epD) (goH := wants) (goN := wantN) (goD := wantD) (plS := steps) (plP := rows) (plM := plM) (plA := plA) (plBN := plBN) (plBD := plBD) (plLN := plLN) (plLD := plLD) (plR := plR) (veW := judged) (veF := fault) (veP := faultPoint) (vsF := vsF) (vsN := vsN) (vsD := vsD) (juM := juM) (juP := juP) (juTN := juTN) (juTD := juTD) (juO := juO) (scN := scN) (scD := scD) (noF := noF) (noN := noN) (noD := noD) (neF := neF) (neN := neN) (neD := neD) (arP := arP) (arB := arB) (arM := arM) (arU := arU) (arF := arF) (arR := arR) (arL := arL) (arT := arT) (arA := arA) (arS := arS) (leN := leN) (leD := leD) (grN := grN) (grD := grD) (arH := arH) (arLU := arLU) (arGU := arGU) (shN := shN) (shD := shD) (stF := stF) (stN := stN) (stD := stD) hw hO1 hPA rS (WPL_c rX rL) rE rT rN rfl rfl rfl wF
  obtain ⟨why', pt', F1, N1, D1, G1, H1, F2, N2, D2, x1, y1, V', FP, hJ', wN', hen', hr⟩ := c_Mo_judge (d := 22) (pre := (MC s0 (.inl (.object "java/lang/Object", [])) handN handD gT gF alE actions alM firstFacts firstN firstD epN epD wants wantN wantD steps rows plM plA plBN plBD plLN plLD plR 1 V juP1 noF1 noN1 noD1 juM1 juP1 (mix (2 * steps) (ptN plBN plBD plLN plLD) juTN) (mix (2 * steps) (ptD plBN plBD plLN plLD) juTD) ord scN1 scD1 noF1 noN1 noD1 neF1 neN1 neD1 arP arB arM arU arF arR arL arT arA arS leN leD grN grD arH arLU arGU shN shD stF stN stD [])) (post := (OUTC x :: post)) (code := code) (amountN := (handN 0)) (amountD := (handD 0)) (momentN := (handN 1)) (momentD := (handD 1)) (epsilonN := epsilonN) (epsilonD := epsilonD) (firstFacts := firstFacts) (firstN := firstN) (firstD := firstD) (wishes := wishes) (wants := wants) (wantN := wantN) (wantD := wantD) (actions := actions) (needs := needs) (needTime := needTime) (needOf := needOf) (needHow := needHow) (needN := needN) (needD := needD) (changes := changes) (changeTime := changeTime) (changeOf := changeOf) (changeHow := changeHow) (changeN := changeN) (changeD := changeD) (lastOf := lastOf) (lastN := lastN) (lastD := lastD) (steps := steps) (stepAction := stepAction) (startN := startN) (startD := startD) (lengthN := lengthN) (lengthD := lengthD) (rows := rows) (row := row) (tried := tried) (triedAction := triedAction) (triedRows := triedRows) (triedRow := triedRow) (times := times) (unit := unit) (facts := facts) (numN := numN) (numD := numD) (oldFacts := oldFacts) (oldN := oldN) (oldD := oldD) (point := point) (judged := judged) (fault := fault) (faultPoint := faultPoint) (toldFacts := toldFacts) (toldN := toldN) (toldD := toldD) (outN := outN) (outD := outD) (pointN := pointN) (pointD := pointD) (gone := gone) (now := now) (leastN := leastN) (leastD := leastD) (greatestN := greatestN) (greatestD := greatestD) (events := events) mc_len hw rU rS rR rX rB hA
  obtain ⟨e1, e2, e3⟩ := judge_det rS.1 hTA (fun p p1 p2 => by
    rw [mix_lt _ _ p2, mix_lt _ _ p2, mix_lt _ _ p2, mix_lt _ _ p2]
    exact pt_c rL p1 p2) (fun s s1 s2 => ⟨(rL s s1 s2).2.2.1, (rL s s1 s2).2.2.2⟩) hJ hJ'
  subst e1
  cases e2
  have e4 : V = V' ∧ juP1 = FP := by
    rcases hen with ⟨a1, a2, a3⟩ | ⟨a1, a2, a3, a4⟩ | ⟨a1, a2, a3, a4⟩ <;> rcases hen' with ⟨b1, b2, b3, b4⟩ | ⟨b1, b2, b3, b4⟩ | ⟨b1, b2, b3, b4⟩ <;> first
      | omega
      | exact absurd a4 b4
      | exact absurd b4 a4
      | exact ⟨by omega, by have := e3 (by omega); omega⟩
  obtain ⟨rfl, rfl⟩ := e4
  exact ⟨_, _, _, Cg.mc hc, k_0, k_168 mc_len, hr, INV.of (⟨rfl, rfl, rfl, rfl⟩) rA rG rM rE rEg rT rN hw rS rR rB rP (mix_all (P := fun z => 0 ≤ z ∧ z < 12) rB rU) rL rX rO rQ rK rI (Or.inr rfl) (fun _ => ⟨rfl, rfl, rfl⟩) hO hD hL (by omega), ⟨_, rfl⟩⟩
theorem p_arrange   (h : INV s0 n mem) : Pair s0 n mem m_Law_arrange m_Mo_arrange [.ref 2, .ref 218] [.ref 168] QI := by
  refine h _ ?_
  clear h
  intro handN handD gT gF alE alM epN epD plM plA plBN plBD plLN plLD plR vsF vsN vsD juM juP juTN juTD juO scN scD noF noN noD neF neN neD arP arB arM arU arF arR arL arT arA arS leN leD grN grD arH arLU arGU shN shD stF stN stD code amountN amountD momentN momentD epsilonN epsilonD firstFacts firstN firstD wishes wants wantN wantD actions needs needTime needOf needHow needN needD changes changeTime changeOf changeHow changeN changeD lastOf lastN lastD steps stepAction startN startD lengthN lengthD rows row tried triedAction triedRows triedRow times unit facts numN numD oldFacts oldN oldD point judged fault faultPoint toldFacts toldN toldD outN outD pointN pointD gone now leastN leastD greatestN greatestD events ab post x he rH rA rG rM rE rEg rT rN hw rS rR rB rP rU rL rX rO rQ rK rI rV rY hO hD hL hn
  subst he
  obtain ⟨rfl, rfl, rfl, rfl⟩ := rH
  have hO1 := acts_mv (rest1 := ((encR code (handN 0) (handD 0) (handN 1) (handD 1) epsilonN epsilonD firstFacts firstN firstD wishes wants wantN wantD actions needs needTime needOf needHow needN needD changes changeTime changeOf changeHow changeN changeD lastOf lastN lastD steps stepAction startN startD lengthN lengthD rows row tried triedAction triedRows triedRow times unit facts numN numD oldFacts oldN oldD point judged fault faultPoint toldFacts toldN toldD outN outD pointN pointD gone now leastN leastD greatestN greatestD events) ++ (OUTC x :: post))) hO (ali_E hL) mv_zr
  have hPA : ∀ s, 0 ≤ s → s < steps → 0 ≤ plA s ∧ plA s < actions := fun s s1 s2 => by rw [(rP s s1 s2).1]; exact (rP s s1 s2).2
  have hA : ∀ s, 0 ≤ s → s < steps → 0 ≤ stepAction s ∧ stepAction s < actions := fun s s1 s2 => (rP s s1 s2).2
  have hTA : ∀ s, 0 ≤ s → s < steps → plA s = mix steps stepAction triedAction s := fun s s1 s2 => by rw [mix_lt _ _ s2]; exact (rP s s1 s2).1
  have wF : WN firstN firstD := fun k => by have := hw.2.2.2.2.2.2.2.2.2.2.2.2.2.2.2.2.2.2.2.2 k; omega
  by_cases hh : rows < 2 * steps
  · skip
    exact pair_exc (⟨rfl, rfl, rfl, rfl⟩) rA rG rM rE rEg rT rN hw rS rR rB rP rU rL rX rO rQ rK rI rV rY hO hD hL hn (k := 1) (by omega) (c_PJ_arr_no rS rR hh) (fun z1 z2 => w_arrange_1 (d := 29) z1 z2) (fun post1 => c_Mo_arrange1 mc_len rS rR hh) (fun _ => ⟨_, rfl, fun z => absurd z (by decide)⟩)
  · have hle := row_le rK rS.1
    have hPP : rows = 2 * steps := by omega
    have hok : ∀ k, 0 ≤ k → k < rows → RowOK plR steps k := fun k k1 k2 => (rK k k1 k2).ext (Int.le_refl _) (fun i i1 i2 => rQ i i1 (by omega)) k1
    have hfull : ∀ p, 0 ≤ p → p < 2 * steps → ∃ j, 0 ≤ j ∧ j < rows ∧ row j = p := fun p p1 p2 => by
      obtain ⟨j, j1, j2, j3⟩ := row_full rK rS.1 (by omega) p p1 p2
      exact ⟨j, j1, by omega, j3⟩
    obtain ⟨why, pt, F1, N1, D1, arP1, arF1, arU1, arT1, shN1, shD1, arLU1, arGU1, arB1, arM1, arR1, arL1, arA1, arS1, leN1, leD1, grN1, grD1, arH1, stF1, stN1, stD1, hA1, wN, hwb, hp1, hp2, hcc⟩ := c_PJ_arrange (d := 22) (s0 := s0) (s1 := (.inl (.object "java/lang/Object", []))) (rest := ((encR code (handN 0) (handD 0) (handN 1) (handD 1) epsilonN epsilonD firstFacts firstN firstD wishes wants wantN wantD actions needs needTime needOf needHow needN needD changes changeTime changeOf changeHow changeN changeD lastOf lastN lastD steps stepAction startN startD lengthN lengthD rows row tried triedAction triedRows triedRow times unit facts numN numD oldFacts oldN oldD point judged fault faultPoint toldFacts toldN toldD outN outD pointN pointD gone now leastN leastD greatestN greatestD events) ++ (OUTC x :: post))) (handN := handN) (handD := handD) (gT := gT) (gF := gF) (alE := alE) (alM := alM) (fiF := firstFacts) (fiN := firstN) (fiD := firstD) (epN := epN) (epD := epD) (goH := wants) (goN := wantN) (goD := wantD) (plS := steps) (plP := rows) (plM := plM) (plA := plA) (plBN := plBN) (plBD := plBD) (plLN := plLN) (plLD := plLD) (plR := plR) (veW := judged) (veF := fault) (veP := faultPoint) (vsF := vsF) (vsN := vsN) (vsD := vsD) (juM := juM) (juP := juP) (juTN := juTN) (juTD := juTD) (juO := juO) (scN := scN) (scD := scD) (noF := noF) (noN := noN) (noD := noD) (neF := neF) (neN := neN) (neD := neD) (arP := arP) (arB := arB) (arM := arM) (arU := arU) (arF := arF) (arR := arR) (arL := arL) (arT := arT) (arA := arA) (arS := arS) (leN := leN) (leD := leD) (grN := grN) (grD := grD) (arH := arH) (arLU := arLU) (arGU := arGU) (shN := shN) (shD := shD) (stF := stF) (stN := stN) (stD := stD) hw hO1 rE rEg rT rN rfl rfl rfl rS hPP hok hPA wF
    rcases hcc with ⟨w0, hc⟩ | ⟨w0, plBN1, plBD1, plLN1, plLD1, hT, hc⟩
    · skip
      obtain ⟨why', pt', F1', N1', D1', G1, x1, y1, p1, lN1, lD1, gN1, gD1, F2, N2, D2, u1, t1, hA2, wN', hwb', hti, hrr⟩ := c_Mo_arrange (d := 23) (pre := (MC s0 (.inl (.object "java/lang/Object", [])) handN handD gT gF alE actions alM firstFacts firstN firstD epN epD wants wantN wantD steps rows plM plA plBN plBD plLN plLD plR 1 why arF1 F1 N1 D1 juM juP juTN juTD juO scN scD noF noN noD neF neN neD arP1 arB1 arM1 arU1 arF1 arR1 arL1 arT1 arA1 arS1 leN1 leD1 grN1 grD1 arH1 arLU1 arGU1 shN1 shD1 stF1 stN1 stD1 [])) (post := (OUTC (iI why).toInt64 :: post)) (code := code) (amountN := (handN 0)) (amountD := (handD 0)) (momentN := (handN 1)) (momentD := (handD 1)) (epsilonN := epsilonN) (epsilonD := epsilonD) (firstFacts := firstFacts) (firstN := firstN) (firstD := firstD) (wishes := wishes) (wants := wants) (wantN := wantN) (wantD := wantD) (actions := actions) (needs := needs) (needTime := needTime) (needOf := needOf) (needHow := needHow) (needN := needN) (needD := needD) (changes := changes) (changeTime := changeTime) (changeOf := changeOf) (changeHow := changeHow) (changeN := changeN) (changeD := changeD) (lastOf := lastOf) (lastN := lastN) (lastD := lastD) (steps := steps) (stepAction := stepAction) (startN := startN) (startD := startD) (lengthN := lengthN) (lengthD := lengthD) (rows := rows) (row := row) (tried := tried) (triedAction := triedAction) (triedRows := triedRows) (triedRow := triedRow) (times := times) (unit := unit) (facts := facts) (numN := numN) (numD := numD) (oldFacts := oldFacts) (oldN := oldN) (oldD := oldD) (point := point) (judged := judged) (fault := fault) (faultPoint := faultPoint) (toldFacts := toldFacts) (toldN := toldN) (toldD := toldD) (outN := outN) (outD := outD) (pointN := pointN) (pointD := pointD) (gone := gone) (now := now) (leastN := leastN) (leastD := leastD) (greatestN := greatestN) (greatestD := greatestD) (events := events) mc_len hw rU rS rR rB hA hfull hPP (row_in rK)
      obtain ⟨e1, e2, e3, e4⟩ := ArrR_det (ArrR_c (by omega) (fun k k1 k2 => by rw [mix_lt _ _ k2]; exact ⟨rQ k k1 k2, row_in rK k k1 k2⟩) (fun S s t s1 s2 => by rw [hTA s s1 s2]) (fun S p p1 p2 => by rw [hTA (p / 2) (by omega) (by omega)]) (fun S s s1 s2 => by rw [hTA s s1 s2]) (fun p q p1 p2 q1 q2 => by unfold intP; rw [hTA (p / 2) (by omega) (by omega), hTA (q / 2) (by omega) (by omega)]) hA1) hA2
      subst e1
      cases e2
      rcases hrr with ⟨r1, r2, hr⟩ | ⟨r1, hr⟩ | ⟨r1, hr⟩
      · obtain rfl : arF1 = pt' := (hp1 r1 r2).trans (e3 r1 r2)
        have hwr := w_arrange_ok (d := 29) k_2 (Cg.mc hc) (k_218 mc_len)
        rw [s_218 mc_len] at hwr
        exact ⟨0, _, _, _, by omega, hwr, k_0, k_168 mc_len, hr, Cg.any (c_Mo_thrown mc_len), INV.of (x := _) (⟨rfl, rfl, rfl, rfl⟩) rA rG rM rE rEg rT rN hw rS rR rB rP (mix_all (P := fun z => 0 ≤ z ∧ z < 12) rB rU) rL rX rO rQ rK rI (Or.inr rfl) (fun _ => ⟨rfl, rfl, rfl⟩) hO hD hL (by omega), ⟨_, rfl, fun _ => k_218 mc_len⟩⟩
      · obtain rfl : arF1 = -1 := hp2 (Or.inr r1)
        have hwr := w_arrange_ok (d := 29) k_2 (Cg.mc hc) (k_218 mc_len)
        rw [s_218 mc_len] at hwr
        exact ⟨0, _, _, _, by omega, hwr, k_0, k_168 mc_len, hr, Cg.any (c_Mo_thrown mc_len), INV.of (x := _) (⟨rfl, rfl, rfl, rfl⟩) rA rG rM rE rEg rT rN hw rS rR rB rP (mix_all (P := fun z => 0 ≤ z ∧ z < 12) rB rU) rL rX rO rQ rK rI (Or.inr rfl) (fun _ => ⟨rfl, rfl, rfl⟩) hO hD hL (by omega), ⟨_, rfl, fun _ => k_218 mc_len⟩⟩
      · exact absurd r1 w0
    · obtain rfl : arF1 = -1 := hp2 (Or.inl w0)
      obtain ⟨why', pt', F1', N1', D1', G1, x1, y1, p1, lN1, lD1, gN1, gD1, F2, N2, D2, u1, t1, hA2, wN', hwb', hti, hrr⟩ := c_Mo_arrange (d := 23) (pre := (MC s0 (.inl (.object "java/lang/Object", [])) handN handD gT gF alE actions alM firstFacts firstN firstD epN epD wants wantN wantD steps rows plM plA plBN1 plBD1 plLN1 plLD1 plR 1 why (-1) F1 N1 D1 juM juP juTN juTD juO scN scD noF noN noD neF neN neD arP1 arB1 arM1 arU1 (-1) arR1 arL1 arT1 arA1 arS1 leN1 leD1 grN1 grD1 arH1 arLU1 arGU1 shN1 shD1 stF1 stN1 stD1 [])) (post := (OUTC (iI why).toInt64 :: post)) (code := code) (amountN := (handN 0)) (amountD := (handD 0)) (momentN := (handN 1)) (momentD := (handD 1)) (epsilonN := epsilonN) (epsilonD := epsilonD) (firstFacts := firstFacts) (firstN := firstN) (firstD := firstD) (wishes := wishes) (wants := wants) (wantN := wantN) (wantD := wantD) (actions := actions) (needs := needs) (needTime := needTime) (needOf := needOf) (needHow := needHow) (needN := needN) (needD := needD) (changes := changes) (changeTime := changeTime) (changeOf := changeOf) (changeHow := changeHow) (changeN := changeN) (changeD := changeD) (lastOf := lastOf) (lastN := lastN) (lastD := lastD) (steps := steps) (stepAction := stepAction) (startN := startN) (startD := startD) (lengthN := lengthN) (lengthD := lengthD) (rows := rows) (row := row) (tried := tried) (triedAction := triedAction) (triedRows := triedRows) (triedRow := triedRow) (times := times) (unit := unit) (facts := facts) (numN := numN) (numD := numD) (oldFacts := oldFacts) (oldN := oldN) (oldD := oldD) (point := point) (judged := judged) (fault := fault) (faultPoint := faultPoint) (toldFacts := toldFacts) (toldN := toldN) (toldD := toldD) (outN := outN) (outD := outD) (pointN := pointN) (pointD := pointD) (gone := gone) (now := now) (leastN := leastN) (leastD := leastD) (greatestN := greatestN) (greatestD := greatestD) (events := events) mc_len hw rU rS rR rB hA hfull hPP (row_in rK)
      obtain ⟨e1, e2, e3, e4⟩ := ArrR_det (ArrR_c (by omega) (fun k k1 k2 => by rw [mix_lt _ _ k2]; exact ⟨rQ k k1 k2, row_in rK k k1 k2⟩) (fun S s t s1 s2 => by rw [hTA s s1 s2]) (fun S p p1 p2 => by rw [hTA (p / 2) (by omega) (by omega)]) (fun S s s1 s2 => by rw [hTA s s1 s2]) (fun p q p1 p2 q1 q2 => by unfold intP; rw [hTA (p / 2) (by omega) (by omega), hTA (q / 2) (by omega) (by omega)]) hA1) hA2
      subst e1
      cases e2
      rcases hrr with ⟨r1, r2, hr⟩ | ⟨r1, hr⟩ | ⟨r1, hr⟩
      · omega
      · omega
      · obtain ⟨eu, et⟩ := e4 w0
        obtain ⟨h1, h2, h3⟩ := hti w0
        rw [mix_mix, mix_mix] at hr
        have hwr := w_arrange_ok (d := 29) k_2 (Cg.mc hc) (k_218 mc_len)
        rw [s_218 mc_len] at hwr
        exact ⟨0, _, _, _, by omega, hwr, k_0, k_168 mc_len, hr, Cg.any (c_Mo_thrown mc_len), INV.of (x := _) (⟨rfl, rfl, rfl, rfl⟩) rA rG rM rE rEg rT rN hw rS rR rB rP (mix_all (P := fun z => 0 ≤ z ∧ z < 12) rB rU) (fun s s1 s2 => by
            rw [mix_lt _ _ s2, mix_lt _ _ s2, mix_lt _ _ s2, mix_lt _ _ s2]
            have z := hT s s1 s2
            dsimp only at z et
            rw [et (2 * s) (by omega) (by omega), et (2 * s + 1) (by omega) (by omega), eu] at z
            exact z) (WPL_times h1 h2 h3 (fun s s1 s2 => by
            rw [mix_lt _ _ s2, mix_lt _ _ s2, mix_lt _ _ s2, mix_lt _ _ s2]
            exact ⟨rfl, rfl, rfl, rfl⟩)) rO rQ rK rI (Or.inr rfl) (fun _ => ⟨rfl, rfl, rfl⟩) hO hD hL (by omega), ⟨_, rfl, fun _ => k_218 mc_len⟩⟩
theorem p_seek {w : Int} (b_w : -2147483648 ≤ w ∧ w < 2147483648)  (h : INV s0 n mem) : Pair s0 n mem m_Law_seek m_Mo_seek [.ref 2, .int (iI w), .ref 218] [.ref 168, .int (iI w)] QI := by
  refine h _ ?_
  clear h
  intro handN handD gT gF alE alM epN epD plM plA plBN plBD plLN plLD plR vsF vsN vsD juM juP juTN juTD juO scN scD noF noN noD neF neN neD arP arB arM arU arF arR arL arT arA arS leN leD grN grD arH arLU arGU shN shD stF stN stD code amountN amountD momentN momentD epsilonN epsilonD firstFacts firstN firstD wishes wants wantN wantD actions needs needTime needOf needHow needN needD changes changeTime changeOf changeHow changeN changeD lastOf lastN lastD steps stepAction startN startD lengthN lengthD rows row tried triedAction triedRows triedRow times unit facts numN numD oldFacts oldN oldD point judged fault faultPoint toldFacts toldN toldD outN outD pointN pointD gone now leastN leastD greatestN greatestD events ab post x he rH rA rG rM rE rEg rT rN hw rS rR rB rP rU rL rX rO rQ rK rI rV rY hO hD hL hn
  subst he
  obtain ⟨rfl, rfl, rfl, rfl⟩ := rH
  have hO1 := acts_mv (rest1 := ((encR code (handN 0) (handD 0) (handN 1) (handD 1) epsilonN epsilonD firstFacts firstN firstD wishes wants wantN wantD actions needs needTime needOf needHow needN needD changes changeTime changeOf changeHow changeN changeD lastOf lastN lastD steps stepAction startN startD lengthN lengthD rows row tried triedAction triedRows triedRow times unit facts numN numD oldFacts oldN oldD point judged fault faultPoint toldFacts toldN toldD outN outD pointN pointD gone now leastN leastD greatestN greatestD events) ++ (OUTC x :: post))) hO (ali_E hL) mv_zr
  have wF : WN firstN firstD := fun k => by have := hw.2.2.2.2.2.2.2.2.2.2.2.2.2.2.2.2.2.2.2.2 k; omega
  by_cases hh : 0 ≤ w ∧ w ≤ 6
  · skip
    rcases c_PJ_seek (d := 14) (s0 := s0) (s1 := (.inl (.object "java/lang/Object", []))) (rest := ((encR code (handN 0) (handD 0) (handN 1) (handD 1) epsilonN epsilonD firstFacts firstN firstD wishes wants wantN wantD actions needs needTime needOf needHow needN needD changes changeTime changeOf changeHow changeN changeD lastOf lastN lastD steps stepAction startN startD lengthN lengthD rows row tried triedAction triedRows triedRow times unit facts numN numD oldFacts oldN oldD point judged fault faultPoint toldFacts toldN toldD outN outD pointN pointD gone now leastN leastD greatestN greatestD events) ++ (OUTC x :: post))) (handN := handN) (handD := handD) (gT := gT) (gF := gF) (alE := alE) (alM := alM) (fiF := firstFacts) (fiN := firstN) (fiD := firstD) (epN := epN) (epD := epD) (goH := wants) (goN := wantN) (goD := wantD) (plS := steps) (plP := rows) (plM := plM) (plA := plA) (plBN := plBN) (plBD := plBD) (plLN := plLN) (plLD := plLD) (plR := plR) (veW := judged) (veF := fault) (veP := faultPoint) (vsF := vsF) (vsN := vsN) (vsD := vsD) (juM := juM) (juP := juP) (juTN := juTN) (juTD := juTD) (juO := juO) (scN := scN) (scD := scD) (noF := noF) (noN := noN) (noD := noD) (neF := neF) (neN := neN) (neD := neD) (arP := arP) (arB := arB) (arM := arM) (arU := arU) (arF := arF) (arR := arR) (arL := arL) (arT := arT) (arA := arA) (arS := arS) (leN := leN) (leD := leD) (grN := grN) (grD := grD) (arH := arH) (arLU := arLU) (arGU := arGU) (shN := shN) (shD := shD) (stF := stF) (stN := stN) (stD := stD) hw hO1 rE rEg rT rN rfl rfl rfl wF hh with ⟨k1, ev', -, hk, hf, hno, A1, T1, pt, S1, u, t, plS1, plP1, plA1, plR1, plM1, plBN1, plBD1, plLN1, plLD1, arP1, arF1, arU1, arT1, shN1, shD1, arLU1, arGU1, arB1, arM1, arR1, arL1, arA1, arS1, leN1, leD1, grN1, grD1, arH1, stF1, stN1, stD1, ⟨q1, q2, q3, q4, q5, q6, q7, q8, q9⟩, hc⟩ | ⟨hno, arP1, arF1, arU1, arT1, shN1, shD1, arLU1, arGU1, arB1, arM1, arR1, arL1, arA1, arS1, leN1, leD1, grN1, grD1, arH1, stF1, stN1, stD1, hc⟩
    · skip
      rcases c_Mo_seek (d := 22) (pre := (MC s0 (.inl (.object "java/lang/Object", [])) handN handD gT gF alE actions alM firstFacts firstN firstD epN epD wants wantN wantD plS1 plP1 plM1 plA1 plBN1 plBD1 plLN1 plLD1 plR1 judged fault faultPoint vsF vsN vsD juM juP juTN juTD juO scN scD noF noN noD neF neN neD arP1 arB1 arM1 arU1 arF1 arR1 arL1 arT1 arA1 arS1 leN1 leD1 grN1 grD1 arH1 arLU1 arGU1 shN1 shD1 stF1 stN1 stD1 [])) (post := (OUTC (iI (2 * (k1 : Int))).toInt64 :: post)) (code := code) (amountN := (handN 0)) (amountD := (handD 0)) (momentN := (handN 1)) (momentD := (handD 1)) (epsilonN := epsilonN) (epsilonD := epsilonD) (firstFacts := firstFacts) (firstN := firstN) (firstD := firstD) (wishes := wishes) (wants := wants) (wantN := wantN) (wantD := wantD) (actions := actions) (needs := needs) (needTime := needTime) (needOf := needOf) (needHow := needHow) (needN := needN) (needD := needD) (changes := changes) (changeTime := changeTime) (changeOf := changeOf) (changeHow := changeHow) (changeN := changeN) (changeD := changeD) (lastOf := lastOf) (lastN := lastN) (lastD := lastD) (steps := steps) (stepAction := stepAction) (startN := startN) (startD := startD) (lengthN := lengthN) (lengthD := lengthD) (rows := rows) (row := row) (tried := tried) (triedAction := triedAction) (triedRows := triedRows) (triedRow := triedRow) (times := times) (unit := unit) (facts := facts) (numN := numN) (numD := numD) (oldFacts := oldFacts) (oldN := oldN) (oldD := oldD) (point := point) (judged := judged) (fault := fault) (faultPoint := faultPoint) (toldFacts := toldFacts) (toldN := toldN) (toldD := toldD) (outN := outN) (outD := outD) (pointN := pointN) (pointD := pointD) (gone := gone) (now := now) (leastN := leastN) (leastD := leastD) (greatestN := greatestN) (greatestD := greatestD) (events := events) mc_len hw hh rU with ⟨k2, ev2, -, hk2, hf2, hno2, facts1, numN1, numD1, gone1, outN1, outD1, point1, leastN1, leastD1, greatestN1, greatestD1, oldFacts1, oldN1, oldD1, unit1, times1, tried1, triedRows1, triedAction1, triedRow1, events1, wT1, ⟨A, T, pt2, S2, a1, a2, a3, a4, a5, a6, a7, a8, a9, a10⟩, x9, y9, hr⟩ | ⟨hno2, facts1, numN1, numD1, gone1, outN1, outD1, point1, leastN1, leastD1, greatestN1, greatestD1, oldFacts1, oldN1, oldD1, unit1, times1, tried1, triedRows1, triedAction1, triedRow1, events1, wT1, hr⟩
      · have ek : k1 = k2 := by
          rcases Nat.lt_trichotomy k1 k2 with z | z | z
          · have := hno2 k1 (Nat.zero_le _) z
            rw [hf] at this
            cases this
          · exact z
          · have := hno k2 (Nat.zero_le _) z
            rw [hf2] at this
            cases this
        subst ek
        have ee : ev' = ev2 := Option.some.inj (hf.symm.trans hf2)
        subst ee
        have et := Option.some.inj (q1.symm.trans a1)
        cases et
        obtain ⟨-, -, -, e4⟩ := ArrR_det q3 a7
        obtain ⟨eu, et⟩ := e4 rfl
        have hx : ∀ k, 0 ≤ k → k < plP1 → (fun k => if 0 ≤ k then mix plP1 triedRow1 row k else 0) k = T1 k := fun k k1 k2 => by
          dsimp only
          rw [if_pos k1, mix_lt _ _ k2]
          exact (a5 k k1 k2).1
        replace hr := Cg.toM (kR_row (xx := (fun k => if 0 ≤ k then mix plP1 triedRow1 row k else 0)) (aI_c (fun z z1 z2 => by rw [if_pos z1]))) hr
        have hwr := w_seek_ok (d := 29) k_2 (Cg.mc hc) (k_218 mc_len)
        rw [s_218 mc_len] at hwr
        exact ⟨0, _, _, _, by omega, hwr, k_0, k_168 mc_len, hr, Cg.any (c_Mo_thrown mc_len), INV.of (x := _) (⟨rfl, rfl, rfl, rfl⟩) rA rG rM rE rEg rT rN hw (by omega) (by omega) (mix_all (P := fun z => 0 ≤ z ∧ z < 12) wT1 rB) (fun s s1 s2 => by
            rw [mix_lt _ _ s2, (a4 s s1 s2).1]
            exact q5 s s1 s2) (wT1) (fun s s1 s2 => by
            rw [mix_lt _ _ s2, mix_lt _ _ s2, mix_lt _ _ s2, mix_lt _ _ s2]
            have z := q9 s s1 s2
            rw [et (2 * s) (by omega) (by omega), et (2 * s + 1) (by omega) (by omega), eu] at z
            exact z) (WPL_times a8 a9 a10 (fun s s1 s2 => by
            rw [mix_lt _ _ s2, mix_lt _ _ s2, mix_lt _ _ s2, mix_lt _ _ s2]
            exact ⟨rfl, rfl, rfl, rfl⟩)) (fun k => by
            by_cases k1 : 0 ≤ k
            · rw [if_pos k1]
              by_cases k2 : k < plP1
              · rw [mix_lt _ _ k2]
                have := a5 k k1 k2
                omega
              · rw [mix_ge _ _ k2]
                exact rO k
            · rw [if_neg k1]
              omega) (fun k k1 k2 => (q6 k k1 k2).trans (hx k k1 k2).symm) (fun k k1 k2 => (q8 k k1 k2).ext (Int.le_refl _) (fun i i1 i2 => hx i i1 (by omega)) k1) (fun p => (q7 p).trans (grp_c hx).symm) rV rY hO hD hL (by omega), ⟨_, rfl, fun _ => k_218 mc_len⟩⟩
      · have := hno2 k1 (Nat.zero_le _) hk
        rw [hf] at this
        cases this
    · skip
      rcases c_Mo_seek (d := 22) (pre := (MC s0 (.inl (.object "java/lang/Object", [])) handN handD gT gF alE actions alM firstFacts firstN firstD epN epD wants wantN wantD steps rows plM plA plBN plBD plLN plLD plR judged fault faultPoint vsF vsN vsD juM juP juTN juTD juO scN scD noF noN noD neF neN neD arP1 arB1 arM1 arU1 arF1 arR1 arL1 arT1 arA1 arS1 leN1 leD1 grN1 grD1 arH1 arLU1 arGU1 shN1 shD1 stF1 stN1 stD1 [])) (post := (OUTC (iI (-1)).toInt64 :: post)) (code := code) (amountN := (handN 0)) (amountD := (handD 0)) (momentN := (handN 1)) (momentD := (handD 1)) (epsilonN := epsilonN) (epsilonD := epsilonD) (firstFacts := firstFacts) (firstN := firstN) (firstD := firstD) (wishes := wishes) (wants := wants) (wantN := wantN) (wantD := wantD) (actions := actions) (needs := needs) (needTime := needTime) (needOf := needOf) (needHow := needHow) (needN := needN) (needD := needD) (changes := changes) (changeTime := changeTime) (changeOf := changeOf) (changeHow := changeHow) (changeN := changeN) (changeD := changeD) (lastOf := lastOf) (lastN := lastN) (lastD := lastD) (steps := steps) (stepAction := stepAction) (startN := startN) (startD := startD) (lengthN := lengthN) (lengthD := lengthD) (rows := rows) (row := row) (tried := tried) (triedAction := triedAction) (triedRows := triedRows) (triedRow := triedRow) (times := times) (unit := unit) (facts := facts) (numN := numN) (numD := numD) (oldFacts := oldFacts) (oldN := oldN) (oldD := oldD) (point := point) (judged := judged) (fault := fault) (faultPoint := faultPoint) (toldFacts := toldFacts) (toldN := toldN) (toldD := toldD) (outN := outN) (outD := outD) (pointN := pointN) (pointD := pointD) (gone := gone) (now := now) (leastN := leastN) (leastD := leastD) (greatestN := greatestN) (greatestD := greatestD) (events := events) mc_len hw hh rU with ⟨k2, ev2, -, hk2, hf2, hno2, facts1, numN1, numD1, gone1, outN1, outD1, point1, leastN1, leastD1, greatestN1, greatestD1, oldFacts1, oldN1, oldD1, unit1, times1, tried1, triedRows1, triedAction1, triedRow1, events1, wT1, ⟨A, T, pt2, S2, a1, a2, a3, a4, a5, a6, a7, a8, a9, a10⟩, x9, y9, hr⟩ | ⟨hno2, facts1, numN1, numD1, gone1, outN1, outD1, point1, leastN1, leastD1, greatestN1, greatestD1, oldFacts1, oldN1, oldD1, unit1, times1, tried1, triedRows1, triedAction1, triedRow1, events1, wT1, hr⟩
      · have := hno k2 (Nat.zero_le _) hk2
        rw [hf2] at this
        cases this
      · skip
        have hwr := w_seek_ok (d := 29) k_2 (Cg.mc hc) (k_218 mc_len)
        rw [s_218 mc_len] at hwr
        exact ⟨0, _, _, _, by omega, hwr, k_0, k_168 mc_len, hr, Cg.any (c_Mo_thrown mc_len), INV.of (x := _) (⟨rfl, rfl, rfl, rfl⟩) rA rG rM rE rEg rT rN hw rS rR rB rP (wT1) rL rX rO rQ rK rI rV rY hO hD hL (by omega), ⟨_, rfl, fun _ => k_218 mc_len⟩⟩
  · skip
    exact pair_exc (⟨rfl, rfl, rfl, rfl⟩) rA rG rM rE rEg rT rN hw rS rR rB rP rU rL rX rO rQ rK rI rV rY hO hD hL hn (k := 1) (by omega) (c_PJ_seek1 b_w hh) (fun z1 z2 => w_seek_1 (d := 29) z1 z2) (fun post1 => c_Mo_seek1 mc_len b_w hh) (fun _ => ⟨_, rfl, fun z => absurd z (by decide)⟩)
end R99
