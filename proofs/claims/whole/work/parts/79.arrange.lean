/-! The class: arrange. -/
section R79
variable {s0 s1 : AC} {rest : AM} {ab : Int → Nat}
variable {alS alM plS plP veW veF veP juP arP arB arU arF : Int}
variable {handN handD fiN fiD epN epD goH goN goD plA plBN plBD plLN plLD plR vsN vsD juTN juTD juO scN scD noN noD neN neD arR arL arT arA arS leN leD grN grD arLU arGU shN shD : Int → Int}
variable {stN stD : Int → Int → Int}
variable {stF : Int → Int → Prop}
variable {gT gF fiF plM vsF juM noF neF arM arH : Int → Prop}
variable {alE : Nat}
variable {code amountN amountD momentN momentD epsilonN epsilonD actions steps rows tried triedRows unit point judged fault faultPoint outN outD : Int}
variable {firstN firstD wishes wants wantN wantD needs needTime needOf needHow needN needD changes changeTime changeOf changeHow changeN changeD lastOf lastN lastD stepAction startN startD lengthN lengthD row triedAction triedRow times numN numD oldN oldD toldN toldD pointN pointD leastN leastD greatestN greatestD events : Int → Int}
variable {firstFacts facts oldFacts toldFacts gone now : Int → Prop}
theorem af_loop {d n0 : Nat} (hw : WT epsilonN epsilonD wishes wants wantN wantD actions needs needTime needOf needHow needN needD changes changeTime changeOf changeHow changeN changeD lastOf lastN lastD firstN firstD) (hO : ActsOK needs needTime needOf needHow needN needD changes changeTime changeOf changeHow changeN changeD lastOf lastN lastD rest alE actions ab) (hE : epN 0 = epsilonN ∧ epD 0 = epsilonD) (he : Int.gcd epsilonN epsilonD = 1) (hT : ∀ i, 0 ≤ i → i < 24 → (gT i ↔ i < 16 ∧ wishes i = 1)) (hF : ∀ i, 0 ≤ i → i < 24 → (gF i ↔ i < 16 ∧ wishes i = 0)) (hH : goH = wants) (hgN : goN = wantN) (hgD : goD = wantD) (wS : 0 ≤ plS ∧ plS ≤ 12) (hPP : plP = 2 * plS) (hok : ∀ k, 0 ≤ k → k < plP → RowOK plR plS k) (hPA : ∀ s, 0 ≤ s → s < plS → 0 ≤ plA s ∧ plA s < actions) : ∀ (n : Nat) (k : Int) (σ : Int → NS) (B : Int → NB) (arP0 : Int) (arF0 : Int) (arU0 : Int) (arT0 : Int → Int) (shN0 : Int → Int) (shD0 : Int → Int) (arLU0 : Int → Int) (arGU0 : Int → Int) (arB0 : Int) (arM0 : Int → Prop) (arR0 : Int → Int) (arL0 : Int → Int) (arA0 : Int → Int) (arS0 : Int → Int) (leN0 : Int → Int) (leD0 : Int → Int) (grN0 : Int → Int) (grD0 : Int → Int) (arH0 : Int → Prop) (stF0 : Int → Int → Prop) (stN0 : Int → Int → Int) (stD0 : Int → Int → Int), k + n = plP → 0 ≤ k → arP0 = k → ArI plA plR (intP plA needs needTime needHow needOf lastOf changes changeTime changeHow changeOf) k σ B arB0 arM0 arR0 arL0 arA0 arS0 leN0 leD0 grN0 grD0 arH0 stF0 stN0 stD0 → WN (σ k).2.1 (σ k).2.2 → ∃ (why pt : Int) (F1 : Int → Prop) (N1 D1 : Int → Int) (arP1 : Int) (arF1 : Int) (arU1 : Int) (arT1 : Int → Int) (shN1 : Int → Int) (shD1 : Int → Int) (arLU1 : Int → Int) (arGU1 : Int → Int) (arB1 : Int) (arM1 : Int → Prop) (arR1 : Int → Int) (arL1 : Int → Int) (arA1 : Int → Int) (arS1 : Int → Int) (leN1 : Int → Int) (leD1 : Int → Int) (grN1 : Int → Int) (grD1 : Int → Int) (arH1 : Int → Prop) (stF1 : Int → Int → Prop) (stN1 : Int → Int → Int) (stD1 : Int → Int → Int), ArrT plS plP plR (fun S s t => fit needs needTime needOf needHow needN needD S.1 S.2.1 S.2.2 (plA s) t) (fun S p => chAll changeTime changeOf changeHow changeN changeD (tmo p) (changes (plA (p / 2))).toNat (6 * plA (p / 2)) S) (fun S s => (lbN lastOf lastN lastD epsilonN epsilonD S.2.1 S.2.2 (plA s), lbD lastOf lastN lastD epsilonN epsilonD S.2.1 S.2.2 (plA s), gbN lastOf lastN lastD S.2.1 S.2.2 (plA s), gbD lastOf lastN lastD S.2.1 S.2.2 (plA s))) (fun S => goal wishes wants wantN wantD S.1 S.2.1 S.2.2) (intP plA needs needTime needHow needOf lastOf changes changeTime changeHow changeOf) epsilonN epsilonD n k (grp plR 0 k) (σ k) B why pt (F1, N1, D1) arU1 (fun p => arT1 (posP arR1 plP p)) ∧ WN N1 D1 ∧ (0 ≤ why ∧ why ≤ 8) ∧ ((0 ≤ arP1 ∧ arP1 ≤ 24 ∧ (why = 5 → arP1 < 24)) ∧ (why = 5 → stF1 (arP1 + 1) = F1 ∧ stN1 (arP1 + 1) = N1 ∧ stD1 (arP1 + 1) = D1) ∧ (¬ why = 5 → stF1 arP1 = F1 ∧ stN1 arP1 = N1 ∧ stD1 arP1 = D1)) ∧ (1 ≤ why → why ≤ 5 → arF1 = pt) ∧ (why = 0 ∨ 6 ≤ why → arF1 = -1) ∧ (why = 0 → arP1 = plP ∧ (∀ i, 0 ≤ i → i < plP → arR1 i = plR i) ∧ (∀ s, 0 ≤ s → s < plS → 0 ≤ arS1 s ∧ arS1 s < plP ∧ plR (arS1 s) = 2 * s) ∧ (0 < arU1 ∧ arU1 ≤ 100000) ∧ ∀ k, 0 ≤ arT1 k ∧ arT1 k ≤ 10000000000000) ∧ Rg false (d + 6) m_Arranger_findFault n0 10 [(3, .int (iI k)), (0, .ref 49), (1, .ref 6), (2, .ref 19)] [] (MC s0 s1 handN handD gT gF alE actions alM fiF fiN fiD epN epD goH goN goD plS plP plM plA plBN plBD plLN plLD plR veW veF veP vsF vsN vsD juM juP juTN juTD juO scN scD noF noN noD neF neN neD arP0 arB0 arM0 arU0 arF0 arR0 arL0 arT0 arA0 arS0 leN0 leD0 grN0 grD0 arH0 arLU0 arGU0 shN0 shD0 stF0 stN0 stD0 rest) (.inl (some (.int (iI why)))) (MC s0 s1 handN handD gT gF alE actions alM fiF fiN fiD epN epD goH goN goD plS plP plM plA plBN plBD plLN plLD plR veW veF veP vsF vsN vsD juM juP juTN juTD juO scN scD noF noN noD neF neN neD arP1 arB1 arM1 arU1 arF1 arR1 arL1 arT1 arA1 arS1 leN1 leD1 grN1 grD1 arH1 arLU1 arGU1 shN1 shD1 stF1 stN1 stD1 rest) := by
  intro n
  induction n with
  | zero =>
    intro k σ B arP0 arF0 arU0 arT0 shN0 shD0 arLU0 arGU0 arB0 arM0 arR0 arL0 arA0 arS0 leN0 leD0 grN0 grD0 arH0 stF0 stN0 stD0 hk hk2 hP hai wN
    have ek : k = plP := by omega
    subst ek
    subst hP
    obtain ⟨e1, e2, e3⟩ := hai.2.1 arP0 hk2 (Int.le_refl _)
    have wN' : WN (stN0 arP0) (stD0 arP0) := by rw [e2, e3]; exact wN
    obtain ⟨V, u1, t1, x1, y1, lu, gu, hL, hT1, hV, hc⟩ := c_Ar_late (d := d + 1) (m := plS) (R := arP0) (s0 := s0) (s1 := s1) (rest := rest) (handN := handN) (handD := handD) (gT := gT) (gF := gF) (alE := alE) (alM := alM) (fiF := fiF) (fiN := fiN) (fiD := fiD) (epN := epN) (epD := epD) (goH := goH) (goN := goN) (goD := goD) (plS := plS) (plP := arP0) (plM := plM) (plA := plA) (plBN := plBN) (plBD := plBD) (plLN := plLN) (plLD := plLD) (plR := plR) (veW := veW) (veF := veF) (veP := veP) (vsF := vsF) (vsN := vsN) (vsD := vsD) (juM := juM) (juP := juP) (juTN := juTN) (juTD := juTD) (juO := juO) (scN := scN) (scD := scD) (noF := noF) (noN := noN) (noD := noD) (neF := neF) (neN := neN) (neD := neD) (arB := arB0) (arM := arM0) (arU := arU0) (arF := arF0) (arR := arR0) (arL := arL0) (arT := arT0) (arA := arA0) (arS := arS0) (leN := leN0) (leD := leD0) (grN := grN0) (grD := grD0) (arH := arH0) (arLU := arLU0) (arGU := arGU0) (shN := shN0) (shD := shD0) (stF := stF0) (stN := stN0) (stD := stD0) hw hO hE hT hF hH hgN hgD wS hPP hok wN' hai
    have hS : σ arP0 = (stF0 arP0, stN0 arP0, stD0 arP0) := by rw [e1, e2, e3]
    rw [hS]
    rcases hL with ⟨v1, v2⟩ | ⟨hgo, ⟨v1, v2⟩ | ⟨u0, v1, ⟨v2, v3⟩ | ⟨v2, v3, v4, v5⟩⟩⟩
    · subst v1
      refine ⟨6, -1, stF0 arP0, stN0 arP0, stD0 arP0, arP0, -1, u1, t1, x1, y1, lu, gu, arB0, arM0, arR0, arL0, arA0, arS0, leN0, leD0, grN0, grD0, arH0, stF0, stN0, stD0, ⟨6, B, ⟨rfl, rfl, Or.inr ⟨v2, rfl⟩⟩, Or.inl ⟨by omega, rfl⟩⟩, wN', by omega, ⟨⟨by omega, by omega, fun z => absurd z (by omega)⟩, fun z => absurd z (by omega), fun _ => ⟨rfl, rfl, rfl⟩⟩, fun z z2 => by omega, fun _ => rfl, fun z => absurd z (by omega), ?_⟩
      refine Rg.step 11 F_Arranger_findFault_10 rfl (fun _ => rfl) ?_
      refine Rg.step 12 F_Arranger_findFault_11 rfl (fun _ => rfl) ?_
      refine Rg.getf 15 F_Arranger_findFault_12 rfl rF_13_83 gC_19 rfl ?_
      refine Rg.icgeI 58 18 F_Arranger_findFault_15 rfl rfl (by omega) (by omega) (fun _ => ?_) (fun h15 => by omega)
      refine Rg.step 59 F_Arranger_findFault_58 rfl (fun _ => rfl) ?_
      refine Rg.step 60 F_Arranger_findFault_59 rfl (fun _ => rfl) ?_
      refine Rg.call 63 F_Arranger_findFault_60 rfl (one_V rM_13_92 (by decide) (by simp) rfl rfl gC_49 rfl) (Nat.le_of_ble_eq_true rfl) hc ?_
      exact Rg.retI F_Arranger_findFault_63 rfl rfl rfl
    · subst v1
      refine ⟨8, -1, stF0 arP0, stN0 arP0, stD0 arP0, arP0, -1, u1, t1, x1, y1, lu, gu, arB0, arM0, arR0, arL0, arA0, arS0, leN0, leD0, grN0, grD0, arH0, stF0, stN0, stD0, ⟨0, B, ⟨rfl, rfl, Or.inl ⟨hgo, rfl⟩⟩, Or.inr ⟨rfl, Or.inl ⟨v2, rfl⟩⟩⟩, wN', by omega, ⟨⟨by omega, by omega, fun z => absurd z (by omega)⟩, fun z => absurd z (by omega), fun _ => ⟨rfl, rfl, rfl⟩⟩, fun z z2 => by omega, fun _ => rfl, fun z => absurd z (by omega), ?_⟩
      refine Rg.step 11 F_Arranger_findFault_10 rfl (fun _ => rfl) ?_
      refine Rg.step 12 F_Arranger_findFault_11 rfl (fun _ => rfl) ?_
      refine Rg.getf 15 F_Arranger_findFault_12 rfl rF_13_83 gC_19 rfl ?_
      refine Rg.icgeI 58 18 F_Arranger_findFault_15 rfl rfl (by omega) (by omega) (fun _ => ?_) (fun h15 => by omega)
      refine Rg.step 59 F_Arranger_findFault_58 rfl (fun _ => rfl) ?_
      refine Rg.step 60 F_Arranger_findFault_59 rfl (fun _ => rfl) ?_
      refine Rg.call 63 F_Arranger_findFault_60 rfl (one_V rM_13_92 (by decide) (by simp) rfl rfl gC_49 rfl) (Nat.le_of_ble_eq_true rfl) hc ?_
      exact Rg.retI F_Arranger_findFault_63 rfl rfl rfl
    · subst v2
      refine ⟨7, -1, stF0 arP0, stN0 arP0, stD0 arP0, arP0, -1, u1, t1, x1, y1, lu, gu, arB0, arM0, arR0, arL0, arA0, arS0, leN0, leD0, grN0, grD0, arH0, stF0, stN0, stD0, ⟨0, B, ⟨rfl, rfl, Or.inl ⟨hgo, rfl⟩⟩, Or.inr ⟨rfl, Or.inr ⟨u0, v1, Or.inl ⟨rfl, v3⟩⟩⟩⟩, wN', by omega, ⟨⟨by omega, by omega, fun z => absurd z (by omega)⟩, fun z => absurd z (by omega), fun _ => ⟨rfl, rfl, rfl⟩⟩, fun z z2 => by omega, fun _ => rfl, fun z => absurd z (by omega), ?_⟩
      refine Rg.step 11 F_Arranger_findFault_10 rfl (fun _ => rfl) ?_
      refine Rg.step 12 F_Arranger_findFault_11 rfl (fun _ => rfl) ?_
      refine Rg.getf 15 F_Arranger_findFault_12 rfl rF_13_83 gC_19 rfl ?_
      refine Rg.icgeI 58 18 F_Arranger_findFault_15 rfl rfl (by omega) (by omega) (fun _ => ?_) (fun h15 => by omega)
      refine Rg.step 59 F_Arranger_findFault_58 rfl (fun _ => rfl) ?_
      refine Rg.step 60 F_Arranger_findFault_59 rfl (fun _ => rfl) ?_
      refine Rg.call 63 F_Arranger_findFault_60 rfl (one_V rM_13_92 (by decide) (by simp) rfl rfl gC_49 rfl) (Nat.le_of_ble_eq_true rfl) hc ?_
      exact Rg.retI F_Arranger_findFault_63 rfl rfl rfl
    · subst v2
      refine ⟨0, -1, stF0 arP0, stN0 arP0, stD0 arP0, arP0, -1, u1, t1, x1, y1, lu, gu, arB0, arM0, arR0, arL0, arA0, arS0, leN0, leD0, grN0, grD0, arH0, stF0, stN0, stD0, ⟨0, B, ⟨rfl, rfl, Or.inl ⟨hgo, rfl⟩⟩, Or.inr ⟨rfl, Or.inr ⟨u0, v1, Or.inr ⟨rfl, v3, v4, v5⟩⟩⟩⟩, wN', by omega, ⟨⟨by omega, by omega, fun z => absurd z (by omega)⟩, fun z => absurd z (by omega), fun _ => ⟨rfl, rfl, rfl⟩⟩, fun z z2 => by omega, fun _ => rfl, fun _ => ⟨rfl, hai.1, fun s z1 z2 => ?_, (hT1 rfl).1, (hT1 rfl).2⟩, ?_⟩
      · obtain ⟨j, j1, j2, j3⟩ := inj_full (n := arP0.toNat) (T := plR) (fun i y1 y2 => by have := (hok i y1 (by omega)).1; omega) (fun i j y1 y2 y3 z => (hok j (by omega) (by omega)).2.1 ⟨i, y1, y2, z⟩) (2 * s) (by omega) (by omega)
        exact (hai.2.2.2.2.1 s z1 ⟨j, j1, by omega, j3⟩).2.1
      · skip
        refine Rg.step 11 F_Arranger_findFault_10 rfl (fun _ => rfl) ?_
        refine Rg.step 12 F_Arranger_findFault_11 rfl (fun _ => rfl) ?_
        refine Rg.getf 15 F_Arranger_findFault_12 rfl rF_13_83 gC_19 rfl ?_
        refine Rg.icgeI 58 18 F_Arranger_findFault_15 rfl rfl (by omega) (by omega) (fun _ => ?_) (fun h15 => by omega)
        refine Rg.step 59 F_Arranger_findFault_58 rfl (fun _ => rfl) ?_
        refine Rg.step 60 F_Arranger_findFault_59 rfl (fun _ => rfl) ?_
        refine Rg.call 63 F_Arranger_findFault_60 rfl (one_V rM_13_92 (by decide) (by simp) rfl rfl gC_49 rfl) (Nat.le_of_ble_eq_true rfl) hc ?_
        exact Rg.retI F_Arranger_findFault_63 rfl rfl rfl
  | succ n ih =>
    intro k σ B arP0 arF0 arU0 arT0 shN0 shD0 arLU0 arGU0 arB0 arM0 arR0 arL0 arA0 arS0 leN0 leD0 grN0 grD0 arH0 stF0 stN0 stD0 hk hk2 hP hai wN
    subst hP
    obtain ⟨e1, e2, e3⟩ := hai.2.1 arP0 hk2 (Int.le_refl _)
    have wN' : WN (stN0 arP0) (stD0 arP0) := by rw [e2, e3]; exact wN
    have hS : σ arP0 = (stF0 arP0, stN0 arP0, stD0 arP0) := by rw [e1, e2, e3]
    have hRk := hok arP0 hk2 (by omega)
    have hr1 := hRk.1
    have a1 := hPA (plR arP0 / 2) (by omega) (by omega)
    obtain ⟨why, arPa, arFa, arBa, arMa, arRa, arLa, arAa, arSa, leNa, leDa, grNa, grDa, arHa, stFa, stNa, stDa, hADD, hc⟩ := c_Ar_add (d := d) (A := plA) (r := plR) (σ := σ) (B := B) (m := plS) (k := arP0) (s0 := s0) (s1 := s1) (rest := rest) (handN := handN) (handD := handD) (gT := gT) (gF := gF) (alE := alE) (alM := alM) (fiF := fiF) (fiN := fiN) (fiD := fiD) (epN := epN) (epD := epD) (goH := goH) (goN := goN) (goD := goD) (plS := plS) (plP := plP) (plM := plM) (plA := plA) (plBN := plBN) (plBD := plBD) (plLN := plLN) (plLD := plLD) (plR := plR) (veW := veW) (veF := veF) (veP := veP) (vsF := vsF) (vsN := vsN) (vsD := vsD) (juM := juM) (juP := juP) (juTN := juTN) (juTD := juTD) (juO := juO) (scN := scN) (scD := scD) (noF := noF) (noN := noN) (noD := noD) (neF := neF) (neN := neN) (neD := neD) (arB := arB0) (arM := arM0) (arU := arU0) (arF := arF0) (arR := arR0) (arL := arL0) (arT := arT0) (arA := arA0) (arS := arS0) (leN := leN0) (leD := leD0) (grN := grN0) (grD := grD0) (arH := arH0) (arLU := arLU0) (arGU := arGU0) (shN := shN0) (shD := shD0) (stF := stF0) (stN := stN0) (stD := stD0) hw hO hE he wS (by omega) hRk (fun i z1 z2 => (hok i z1 (by omega)).1) hPA wN' hai
    rw [hS]
    rcases hADD with ⟨v1, v2, v3, v4, v5⟩ | ⟨hf, ⟨v1, v2, v3, v4, v5⟩ | ⟨F2, N2, D2, hcc, wN2, ⟨v1, q, v2, q1, q2, v3, v4, v5, v6, v7, v8, v9⟩ | ⟨v1, v2, v3, v4⟩⟩⟩
    · subst v1
      subst v4
      obtain ⟨f1, f2, f3⟩ := v5.2.1 arPa hk2 (Int.le_refl _)
      refine ⟨2, plR arPa, stF0 arPa, stN0 arPa, stD0 arPa, arPa, arFa, arU0, arT0, shN0, shD0, arLU0, arGU0, arBa, arMa, arRa, arLa, arAa, arSa, leNa, leDa, grNa, grDa, arHa, stFa, stNa, stDa, ⟨2, B, Or.inl ⟨v2, rfl, rfl, rfl⟩, Or.inl ⟨by omega, rfl⟩⟩, wN', by omega, ⟨⟨by omega, by omega, fun z => absurd z (by omega)⟩, fun z => absurd z (by omega), fun _ => ?_⟩, fun _ _ => v3, fun z => by omega, fun z => absurd z (by omega), ?_⟩
      · rw [f1, f2, f3, e1, e2, e3]
        exact ⟨rfl, rfl, rfl⟩
      · skip
        refine Rg.step 11 F_Arranger_findFault_10 rfl (fun _ => rfl) ?_
        refine Rg.step 12 F_Arranger_findFault_11 rfl (fun _ => rfl) ?_
        refine Rg.getf 15 F_Arranger_findFault_12 rfl rF_13_83 gC_19 rfl ?_
        refine Rg.icgeI 58 18 F_Arranger_findFault_15 rfl rfl (by omega) (by omega) (fun h15 => by omega) (fun _ => ?_)
        refine Rg.step 19 F_Arranger_findFault_18 rfl (fun _ => rfl) ?_
        refine Rg.step 20 F_Arranger_findFault_19 rfl (fun _ => rfl) ?_
        refine Rg.step 21 F_Arranger_findFault_20 rfl (fun _ => rfl) ?_
        refine Rg.getf 24 F_Arranger_findFault_21 rfl rF_13_86 gC_19 rfl ?_
        refine Rg.step 25 F_Arranger_findFault_24 rfl (fun _ => rfl) ?_
        refine Rg.ild 26 F_Arranger_findFault_25 rfl gC_27 (by omega) (by decide) ?_
        refine Rg.step 27 F_Arranger_findFault_26 rfl (fun _ => rfl) ?_
        refine Rg.getf 30 F_Arranger_findFault_27 rfl rF_13_87 gC_19 rfl ?_
        refine Rg.step 31 F_Arranger_findFault_30 rfl (fun _ => rfl) ?_
        refine Rg.getf 34 F_Arranger_findFault_31 rfl rF_13_86 gC_19 rfl ?_
        refine Rg.step 35 F_Arranger_findFault_34 rfl (fun _ => rfl) ?_
        refine Rg.ild 36 F_Arranger_findFault_35 rfl gC_27 (by omega) (by decide) ?_
        refine Rg.step 37 F_Arranger_findFault_36 rfl (fun _ => rfl) ?_
        refine Rg.divIp 38 F_Arranger_findFault_37 rfl (by omega) (by omega) ?_
        refine Rg.ild 39 F_Arranger_findFault_38 rfl gC_20 (by omega) (by decide) ?_
        refine Rg.call 42 F_Arranger_findFault_39 rfl (one_V rM_13_88 (by decide) (by simp) rfl rfl gC_49 rfl) (Nat.le_of_ble_eq_true rfl) hc ?_
        refine Rg.step 44 F_Arranger_findFault_42 rfl (fun _ => rfl) ?_
        refine Rg.step 46 F_Arranger_findFault_44 rfl (fun _ => rfl) ?_
        refine Rg.ifeqI 52 49 F_Arranger_findFault_46 rfl rfl (by omega) (fun h46 => by omega) (fun _ => ?_)
        refine Rg.step 51 F_Arranger_findFault_49 rfl (fun _ => rfl) ?_
        exact Rg.retI F_Arranger_findFault_51 rfl rfl rfl
    · subst v1
      subst v4
      obtain ⟨f1, f2, f3⟩ := v5.2.1 arPa hk2 (Int.le_refl _)
      refine ⟨4, plR arPa, stF0 arPa, stN0 arPa, stD0 arPa, arPa, arFa, arU0, arT0, shN0, shD0, arLU0, arGU0, arBa, arMa, arRa, arLa, arAa, arSa, leNa, leDa, grNa, grDa, arHa, stFa, stNa, stDa, ⟨4, B, Or.inr ⟨hf, Or.inl ⟨v2, rfl, rfl, rfl⟩⟩, Or.inl ⟨by omega, rfl⟩⟩, wN', by omega, ⟨⟨by omega, by omega, fun z => absurd z (by omega)⟩, fun z => absurd z (by omega), fun _ => ?_⟩, fun _ _ => v3, fun z => by omega, fun z => absurd z (by omega), ?_⟩
      · rw [f1, f2, f3, e1, e2, e3]
        exact ⟨rfl, rfl, rfl⟩
      · skip
        refine Rg.step 11 F_Arranger_findFault_10 rfl (fun _ => rfl) ?_
        refine Rg.step 12 F_Arranger_findFault_11 rfl (fun _ => rfl) ?_
        refine Rg.getf 15 F_Arranger_findFault_12 rfl rF_13_83 gC_19 rfl ?_
        refine Rg.icgeI 58 18 F_Arranger_findFault_15 rfl rfl (by omega) (by omega) (fun h15 => by omega) (fun _ => ?_)
        refine Rg.step 19 F_Arranger_findFault_18 rfl (fun _ => rfl) ?_
        refine Rg.step 20 F_Arranger_findFault_19 rfl (fun _ => rfl) ?_
        refine Rg.step 21 F_Arranger_findFault_20 rfl (fun _ => rfl) ?_
        refine Rg.getf 24 F_Arranger_findFault_21 rfl rF_13_86 gC_19 rfl ?_
        refine Rg.step 25 F_Arranger_findFault_24 rfl (fun _ => rfl) ?_
        refine Rg.ild 26 F_Arranger_findFault_25 rfl gC_27 (by omega) (by decide) ?_
        refine Rg.step 27 F_Arranger_findFault_26 rfl (fun _ => rfl) ?_
        refine Rg.getf 30 F_Arranger_findFault_27 rfl rF_13_87 gC_19 rfl ?_
        refine Rg.step 31 F_Arranger_findFault_30 rfl (fun _ => rfl) ?_
        refine Rg.getf 34 F_Arranger_findFault_31 rfl rF_13_86 gC_19 rfl ?_
        refine Rg.step 35 F_Arranger_findFault_34 rfl (fun _ => rfl) ?_
        refine Rg.ild 36 F_Arranger_findFault_35 rfl gC_27 (by omega) (by decide) ?_
        refine Rg.step 37 F_Arranger_findFault_36 rfl (fun _ => rfl) ?_
        refine Rg.divIp 38 F_Arranger_findFault_37 rfl (by omega) (by omega) ?_
        refine Rg.ild 39 F_Arranger_findFault_38 rfl gC_20 (by omega) (by decide) ?_
        refine Rg.call 42 F_Arranger_findFault_39 rfl (one_V rM_13_88 (by decide) (by simp) rfl rfl gC_49 rfl) (Nat.le_of_ble_eq_true rfl) hc ?_
        refine Rg.step 44 F_Arranger_findFault_42 rfl (fun _ => rfl) ?_
        refine Rg.step 46 F_Arranger_findFault_44 rfl (fun _ => rfl) ?_
        refine Rg.ifeqI 52 49 F_Arranger_findFault_46 rfl rfl (by omega) (fun h46 => by omega) (fun _ => ?_)
        refine Rg.step 51 F_Arranger_findFault_49 rfl (fun _ => rfl) ?_
        exact Rg.retI F_Arranger_findFault_51 rfl rfl rfl
    · subst v1
      subst v5
      have hgs : ∀ s, grp plR 0 (arPa + 1) (2 * s) → s < plS := fun s ⟨i, z1, z2, z3⟩ => by have := (hok i z1 (by omega)).1; omega
      refine ⟨5, 2 * q, F2, N2, D2, arPa, arFa, arU0, arT0, shN0, shD0, arLU0, arGU0, arBa, arMa, arRa, arLa, arAa, arSa, leNa, leDa, grNa, grDa, arHa, stFa, stNa, stDa, ⟨5, B, Or.inr ⟨hf, Or.inr ⟨(F2, N2, D2), hcc, Or.inl ⟨q, rfl, q1, hgs q v3.1, by rw [grp_up hk2]; exact v3, fun r z1 z2 => by rw [grp_up hk2]; exact v4 r z1 z2, rfl, rfl⟩⟩⟩, Or.inl ⟨by omega, rfl⟩⟩, wN2, by omega, ⟨⟨by omega, by omega, fun _ => by omega⟩, fun _ => ⟨v7, v8, v9⟩, fun z => absurd rfl z⟩, fun _ _ => v2, fun z => by omega, fun z => absurd z (by omega), ?_⟩
      refine Rg.step 11 F_Arranger_findFault_10 rfl (fun _ => rfl) ?_
      refine Rg.step 12 F_Arranger_findFault_11 rfl (fun _ => rfl) ?_
      refine Rg.getf 15 F_Arranger_findFault_12 rfl rF_13_83 gC_19 rfl ?_
      refine Rg.icgeI 58 18 F_Arranger_findFault_15 rfl rfl (by omega) (by omega) (fun h15 => by omega) (fun _ => ?_)
      refine Rg.step 19 F_Arranger_findFault_18 rfl (fun _ => rfl) ?_
      refine Rg.step 20 F_Arranger_findFault_19 rfl (fun _ => rfl) ?_
      refine Rg.step 21 F_Arranger_findFault_20 rfl (fun _ => rfl) ?_
      refine Rg.getf 24 F_Arranger_findFault_21 rfl rF_13_86 gC_19 rfl ?_
      refine Rg.step 25 F_Arranger_findFault_24 rfl (fun _ => rfl) ?_
      refine Rg.ild 26 F_Arranger_findFault_25 rfl gC_27 (by omega) (by decide) ?_
      refine Rg.step 27 F_Arranger_findFault_26 rfl (fun _ => rfl) ?_
      refine Rg.getf 30 F_Arranger_findFault_27 rfl rF_13_87 gC_19 rfl ?_
      refine Rg.step 31 F_Arranger_findFault_30 rfl (fun _ => rfl) ?_
      refine Rg.getf 34 F_Arranger_findFault_31 rfl rF_13_86 gC_19 rfl ?_
      refine Rg.step 35 F_Arranger_findFault_34 rfl (fun _ => rfl) ?_
      refine Rg.ild 36 F_Arranger_findFault_35 rfl gC_27 (by omega) (by decide) ?_
      refine Rg.step 37 F_Arranger_findFault_36 rfl (fun _ => rfl) ?_
      refine Rg.divIp 38 F_Arranger_findFault_37 rfl (by omega) (by omega) ?_
      refine Rg.ild 39 F_Arranger_findFault_38 rfl gC_20 (by omega) (by decide) ?_
      refine Rg.call 42 F_Arranger_findFault_39 rfl (one_V rM_13_88 (by decide) (by simp) rfl rfl gC_49 rfl) (Nat.le_of_ble_eq_true rfl) hc ?_
      refine Rg.step 44 F_Arranger_findFault_42 rfl (fun _ => rfl) ?_
      refine Rg.step 46 F_Arranger_findFault_44 rfl (fun _ => rfl) ?_
      refine Rg.ifeqI 52 49 F_Arranger_findFault_46 rfl rfl (by omega) (fun h46 => by omega) (fun _ => ?_)
      refine Rg.step 51 F_Arranger_findFault_49 rfl (fun _ => rfl) ?_
      exact Rg.retI F_Arranger_findFault_51 rfl rfl rfl
    · subst v1
      have hgs : ∀ s, badS (fun S s t => fit needs needTime needOf needHow needN needD S.1 S.2.1 S.2.2 (plA s) t) (grp plR 0 (arP0 + 1)) (F2, N2, D2) s → 0 ≤ s → s < 12 := fun s z0 z1 => by
        obtain ⟨i, y1, y2, y3⟩ := z0.1
        have := (hok i y1 (by omega)).1
        omega
      have hB2 : (if plR arP0 % 2 = 0 then up1 B (plR arP0 / 2) ((fun S s => (lbN lastOf lastN lastD epsilonN epsilonD S.2.1 S.2.2 (plA s), lbD lastOf lastN lastD epsilonN epsilonD S.2.1 S.2.2 (plA s), gbN lastOf lastN lastD S.2.1 S.2.2 (plA s), gbD lastOf lastN lastD S.2.1 S.2.2 (plA s))) (stF0 arP0, stN0 arP0, stD0 arP0) (plR arP0 / 2)) else B) = (if plR arP0 % 2 = 0 then up1 B (plR arP0 / 2) ((fun S s => (lbN lastOf lastN lastD epsilonN epsilonD S.2.1 S.2.2 (plA s), lbD lastOf lastN lastD epsilonN epsilonD S.2.1 S.2.2 (plA s), gbN lastOf lastN lastD S.2.1 S.2.2 (plA s), gbD lastOf lastN lastD S.2.1 S.2.2 (plA s))) (stF0 arP0, stN0 arP0, stD0 arP0) (plR arP0 / 2)) else B) := rfl
      have wNx : WN (up1 σ (arP0 + 1) (F2, N2, D2) (arP0 + 1)).2.1 (up1 σ (arP0 + 1) (F2, N2, D2) (arP0 + 1)).2.2 := by rw [up1_eq]; exact wN2
      obtain ⟨why, pt, F1, N1, D1, arP1, arF1, arU1, arT1, shN1, shD1, arLU1, arGU1, arB1, arM1, arR1, arL1, arA1, arS1, leN1, leD1, grN1, grD1, arH1, stF1, stN1, stD1, ⟨why0, B1, hW, hR2⟩, p1, p2, p3, p4, p5, p6, ht⟩ := ih (arP0 + 1) (up1 σ (arP0 + 1) (F2, N2, D2)) _ arPa arFa arU0 arT0 shN0 shD0 arLU0 arGU0 arBa arMa arRa arLa arAa arSa leNa leDa grNa grDa arHa stFa stNa stDa (by omega) (by omega) v3 v4 wNx
      rw [up1_eq] at hW
      refine ⟨why, pt, F1, N1, D1, arP1, arF1, arU1, arT1, shN1, shD1, arLU1, arGU1, arB1, arM1, arR1, arL1, arA1, arS1, leN1, leD1, grN1, grD1, arH1, stF1, stN1, stD1, ⟨why0, B1, Or.inr ⟨hf, Or.inr ⟨(F2, N2, D2), hcc, Or.inr ⟨fun r z1 z2 => by rw [grp_up hk2]; exact fun z => v2 r z1 (hgs r z z1) z, by rw [grp_up hk2]; exact hW⟩⟩⟩, hR2⟩, p1, p2, p3, p4, p5, p6, ?_⟩
      refine Rg.step 11 F_Arranger_findFault_10 rfl (fun _ => rfl) ?_
      refine Rg.step 12 F_Arranger_findFault_11 rfl (fun _ => rfl) ?_
      refine Rg.getf 15 F_Arranger_findFault_12 rfl rF_13_83 gC_19 rfl ?_
      refine Rg.icgeI 58 18 F_Arranger_findFault_15 rfl rfl (by omega) (by omega) (fun h15 => by omega) (fun _ => ?_)
      refine Rg.step 19 F_Arranger_findFault_18 rfl (fun _ => rfl) ?_
      refine Rg.step 20 F_Arranger_findFault_19 rfl (fun _ => rfl) ?_
      refine Rg.step 21 F_Arranger_findFault_20 rfl (fun _ => rfl) ?_
      refine Rg.getf 24 F_Arranger_findFault_21 rfl rF_13_86 gC_19 rfl ?_
      refine Rg.step 25 F_Arranger_findFault_24 rfl (fun _ => rfl) ?_
      refine Rg.ild 26 F_Arranger_findFault_25 rfl gC_27 (by omega) (by decide) ?_
      refine Rg.step 27 F_Arranger_findFault_26 rfl (fun _ => rfl) ?_
      refine Rg.getf 30 F_Arranger_findFault_27 rfl rF_13_87 gC_19 rfl ?_
      refine Rg.step 31 F_Arranger_findFault_30 rfl (fun _ => rfl) ?_
      refine Rg.getf 34 F_Arranger_findFault_31 rfl rF_13_86 gC_19 rfl ?_
      refine Rg.step 35 F_Arranger_findFault_34 rfl (fun _ => rfl) ?_
      refine Rg.ild 36 F_Arranger_findFault_35 rfl gC_27 (by omega) (by decide) ?_
      refine Rg.step 37 F_Arranger_findFault_36 rfl (fun _ => rfl) ?_
      refine Rg.divIp 38 F_Arranger_findFault_37 rfl (by omega) (by omega) ?_
      refine Rg.ild 39 F_Arranger_findFault_38 rfl gC_20 (by omega) (by decide) ?_
      refine Rg.call 42 F_Arranger_findFault_39 rfl (one_V rM_13_88 (by decide) (by simp) rfl rfl gC_49 rfl) (Nat.le_of_ble_eq_true rfl) hc ?_
      refine Rg.step 44 F_Arranger_findFault_42 rfl (fun _ => rfl) ?_
      refine Rg.step 46 F_Arranger_findFault_44 rfl (fun _ => rfl) ?_
      refine Rg.ifeqI 52 49 F_Arranger_findFault_46 rfl rfl (by omega) (fun _ => ?_) (fun h46 => by omega)
      refine Rg.inc 55 F_Arranger_findFault_52 rfl rfl (by decide) ?_
      refine Rg.step 10 F_Arranger_findFault_55 rfl (fun _ => rfl) ?_
      exact Rg.weak ht (by simp [lput1, lput2, Value.category, fi0, fi1, fi2, fi3] <;> first | rfl | exact ⟨rfl, rfl⟩) (by simp [lput1, lput2, Value.category, fi0, fi1, fi2, fi3] <;> first | rfl | exact ⟨rfl, rfl⟩)
theorem c_Ar_findFault {d : Nat} (hw : WT epsilonN epsilonD wishes wants wantN wantD actions needs needTime needOf needHow needN needD changes changeTime changeOf changeHow changeN changeD lastOf lastN lastD firstN firstD) (hO : ActsOK needs needTime needOf needHow needN needD changes changeTime changeOf changeHow changeN changeD lastOf lastN lastD rest alE actions ab) (hE : epN 0 = epsilonN ∧ epD 0 = epsilonD) (he : Int.gcd epsilonN epsilonD = 1) (hT : ∀ i, 0 ≤ i → i < 24 → (gT i ↔ i < 16 ∧ wishes i = 1)) (hF : ∀ i, 0 ≤ i → i < 24 → (gF i ↔ i < 16 ∧ wishes i = 0)) (hH : goH = wants) (hgN : goN = wantN) (hgD : goD = wantD) (wS : 0 ≤ plS ∧ plS ≤ 12) (hPP : plP = 2 * plS) (hok : ∀ k, 0 ≤ k → k < plP → RowOK plR plS k) (hPA : ∀ s, 0 ≤ s → s < plS → 0 ≤ plA s ∧ plA s < actions) (wF : WN fiN fiD) : ∃ (why pt : Int) (F1 : Int → Prop) (N1 D1 : Int → Int) (arP1 : Int) (arF1 : Int) (arU1 : Int) (arT1 : Int → Int) (shN1 : Int → Int) (shD1 : Int → Int) (arLU1 : Int → Int) (arGU1 : Int → Int) (arB1 : Int) (arM1 : Int → Prop) (arR1 : Int → Int) (arL1 : Int → Int) (arA1 : Int → Int) (arS1 : Int → Int) (leN1 : Int → Int) (leD1 : Int → Int) (grN1 : Int → Int) (grD1 : Int → Int) (arH1 : Int → Prop) (stF1 : Int → Int → Prop) (stN1 : Int → Int → Int) (stD1 : Int → Int → Int), ArrR plS plP plR (fun S s t => fit needs needTime needOf needHow needN needD S.1 S.2.1 S.2.2 (plA s) t) (fun S p => chAll changeTime changeOf changeHow changeN changeD (tmo p) (changes (plA (p / 2))).toNat (6 * plA (p / 2)) S) (fun S s => (lbN lastOf lastN lastD epsilonN epsilonD S.2.1 S.2.2 (plA s), lbD lastOf lastN lastD epsilonN epsilonD S.2.1 S.2.2 (plA s), gbN lastOf lastN lastD S.2.1 S.2.2 (plA s), gbD lastOf lastN lastD S.2.1 S.2.2 (plA s))) (fun S => goal wishes wants wantN wantD S.1 S.2.1 S.2.2) (intP plA needs needTime needHow needOf lastOf changes changeTime changeHow changeOf) epsilonN epsilonD (fiF, fiN, fiD) why pt (F1, N1, D1) arU1 (fun p => arT1 (posP arR1 plP p)) ∧ WN N1 D1 ∧ (0 ≤ why ∧ why ≤ 8) ∧ ((0 ≤ arP1 ∧ arP1 ≤ 24 ∧ (why = 5 → arP1 < 24)) ∧ (why = 5 → stF1 (arP1 + 1) = F1 ∧ stN1 (arP1 + 1) = N1 ∧ stD1 (arP1 + 1) = D1) ∧ (¬ why = 5 → stF1 arP1 = F1 ∧ stN1 arP1 = N1 ∧ stD1 arP1 = D1)) ∧ (1 ≤ why → why ≤ 5 → arF1 = pt) ∧ (why = 0 ∨ 6 ≤ why → arF1 = -1) ∧ (why = 0 → arP1 = plP ∧ (∀ i, 0 ≤ i → i < plP → arR1 i = plR i) ∧ (∀ s, 0 ≤ s → s < plS → 0 ≤ arS1 s ∧ arS1 s < plP ∧ plR (arS1 s) = 2 * s) ∧ (0 < arU1 ∧ arU1 ≤ 100000) ∧ ∀ k, 0 ≤ arT1 k ∧ arT1 k ≤ 10000000000000) ∧ Cg false (d + 6) m_Arranger_findFault [.ref 49, .ref 6, .ref 19] (MC s0 s1 handN handD gT gF alE actions alM fiF fiN fiD epN epD goH goN goD plS plP plM plA plBN plBD plLN plLD plR veW veF veP vsF vsN vsD juM juP juTN juTD juO scN scD noF noN noD neF neN neD arP arB arM arU arF arR arL arT arA arS leN leD grN grD arH arLU arGU shN shD stF stN stD rest) (.inl (some (.int (iI why)))) (MC s0 s1 handN handD gT gF alE actions alM fiF fiN fiD epN epD goH goN goD plS plP plM plA plBN plBD plLN plLD plR veW veF veP vsF vsN vsD juM juP juTN juTD juO scN scD noF noN noD neF neN neD arP1 arB1 arM1 arU1 arF1 arR1 arL1 arT1 arA1 arS1 leN1 leD1 grN1 grD1 arH1 arLU1 arGU1 shN1 shD1 stF1 stN1 stD1 rest) := by
  have hai0 : ArI plA plR (intP plA needs needTime needHow needOf lastOf changes changeTime changeHow changeOf) 0 (fun _ => (fiF, fiN, fiD)) (fun _ => (0, 0, 0, 0)) 0 (fun _ => False) arR arL arA arS leN leD grN grD arH (up1 stF 0 fiF) (up1 stN 0 fiN) (up1 stD 0 fiD) := ⟨fun i z1 z2 => by omega, fun i z1 z2 => by
    have e0 : i = 0 := by omega
    rw [e0, up1_eq, up1_eq, up1_eq]
    exact ⟨rfl, rfl, rfl⟩, by
    rw [cntP_c (B := fun _ => False) 12 (fun s _ _ => ⟨fun ⟨i, y1, y2, _⟩ => by omega, False.elim⟩)]
    simp [cntP], fun s z1 z2 => ⟨False.elim, fun ⟨⟨i, y1, y2, _⟩, _⟩ => by omega⟩, fun s z1 ⟨i, y1, y2, _⟩ => by omega, fun i z1 z2 => by omega⟩
  obtain ⟨why, pt, F1, N1, D1, arP1, arF1, arU1, arT1, shN1, shD1, arLU1, arGU1, arB1, arM1, arR1, arL1, arA1, arS1, leN1, leD1, grN1, grD1, arH1, stF1, stN1, stD1, hA, p1, p2, p3, p4, p5, p6, ht⟩ := af_loop (d := d) (n0 := (MC s0 s1 handN handD gT gF alE actions alM fiF fiN fiD epN epD goH goN goD plS plP plM plA plBN plBD plLN plLD plR veW veF veP vsF vsN vsD juM juP juTN juTD juO scN scD noF noN noD neF neN neD arP arB arM arU arF arR arL arT arA arS leN leD grN grD arH arLU arGU shN shD stF stN stD rest).length) (s0 := s0) (s1 := s1) (rest := rest) (handN := handN) (handD := handD) (gT := gT) (gF := gF) (alE := alE) (alM := alM) (fiF := fiF) (fiN := fiN) (fiD := fiD) (epN := epN) (epD := epD) (goH := goH) (goN := goN) (goD := goD) (plS := plS) (plP := plP) (plM := plM) (plA := plA) (plBN := plBN) (plBD := plBD) (plLN := plLN) (plLD := plLD) (plR := plR) (veW := veW) (veF := veF) (veP := veP) (vsF := vsF) (vsN := vsN) (vsD := vsD) (juM := juM) (juP := juP) (juTN := juTN) (juTD := juTD) (juO := juO) (scN := scN) (scD := scD) (noF := noF) (noN := noN) (noD := noD) (neF := neF) (neN := neN) (neD := neD) hw hO hE he hT hF hH hgN hgD wS hPP hok hPA plP.toNat 0 (fun _ => (fiF, fiN, fiD)) (fun _ => (0, 0, 0, 0)) 0 arF arU arT shN shD arLU arGU 0 (fun _ => False) arR arL arA arS leN leD grN grD arH (up1 stF 0 fiF) (up1 stN 0 fiN) (up1 stD 0 fiD) (by omega) (by omega) rfl hai0 wF
  rw [show grp plR 0 0 = (fun _ => False) from funext (fun p => propext ⟨fun ⟨i, i1, i2, _⟩ => by omega, False.elim⟩)] at hA
  refine ⟨why, pt, F1, N1, D1, arP1, arF1, arU1, arT1, shN1, shD1, arLU1, arGU1, arB1, arM1, arR1, arL1, arA1, arS1, leN1, leD1, grN1, grD1, arH1, stF1, stN1, stD1, hA, p1, p2, p3, p4, p5, p6, ?_⟩
  refine Cg.of (Nat.le_of_ble_eq_true rfl) ?_
  change Rg _ _ _ _ 0 [(0, .ref 49), (1, .ref 6), (2, .ref 19)] [] _ _ _
  refine Rg.step 1 F_Arranger_findFault_0 rfl (fun _ => rfl) ?_
  refine Rg.step 2 F_Arranger_findFault_1 rfl (fun _ => rfl) ?_
  refine Rg.getf 5 F_Arranger_findFault_2 rfl rF_13_74 gC_6 rfl ?_
  refine Rg.call 8 F_Arranger_findFault_5 rfl (one_V rM_13_80 (by decide) (by simp) rfl rfl gC_49 rfl) (Nat.le_of_ble_eq_true rfl) c_Ar_begin ?_
  refine Rg.step 9 F_Arranger_findFault_8 rfl (fun _ => rfl) ?_
  refine Rg.step 10 F_Arranger_findFault_9 rfl (fun _ => rfl) ?_
  exact Rg.weak ht (by simp [lput1, lput2, Value.category, fi0, fi1, fi2, fi3] <;> first | rfl | exact ⟨rfl, rfl⟩) (by simp [lput1, lput2, Value.category, fi0, fi1, fi2, fi3] <;> first | rfl | exact ⟨rfl, rfl⟩)
end R79
