/-! The class: judging a plan. -/
section R72
variable {s0 s1 : AC} {rest : AM} {ab : Int → Nat}
variable {alS alM plS plP veW veF veP juP arP arB arU arF : Int}
variable {handN handD fiN fiD epN epD goH goN goD plA plBN plBD plLN plLD plR vsN vsD juTN juTD juO scN scD noN noD neN neD arR arL arT arA arS leN leD grN grD arLU arGU shN shD : Int → Int}
variable {stN stD : Int → Int → Int}
variable {stF : Int → Int → Prop}
variable {gT gF fiF plM vsF juM noF neF arM arH : Int → Prop}
variable {alE : Nat}
variable {code amountN amountD momentN momentD epsilonN epsilonD actions steps rows tried triedRows unit point judged fault faultPoint outN outD : Int}
variable {firstN firstD wishes wants wantN wantD needs needTime needOf needHow needN needD changes changeTime changeOf changeHow changeN changeD lastOf lastN lastD stepAction startN startD lengthN lengthD row triedAction triedRow times numN numD oldN oldD toldN toldD pointN pointD leastN leastD greatestN greatestD events : Int → Int}
variable {firstFacts facts oldFacts toldFacts gone now : Int → Prop}
theorem ff_to {d n0 : Nat} (wS : 0 ≤ plS ∧ plS ≤ 12) (hQ : ∀ p, 0 ≤ p → p < 2 * plS → 0 ≤ juTN p ∧ juTN p ≤ 100000000000 ∧ 0 < juTD p ∧ juTD p ≤ 1000000) (hs : Srt juTN juTD juO (2 * plS)) {f : Int} (hf : 0 ≤ f ∧ f < 2 * plS) : ∀ (n : Nat) (to : Int), to + n = 2 * plS → f < to → (∀ i, f ≤ i → i < to → leP juTN juTD (juO i) (juO f)) → ∃ to1, f < to1 ∧ to1 ≤ 2 * plS ∧ (∀ i, f ≤ i → i < to1 → leP juTN juTD (juO i) (juO f)) ∧ (to1 = 2 * plS ∨ ¬ leP juTN juTD (juO to1) (juO f)) ∧ ∀ o mem1, Rg false (d + 7) m_Judge_findFault n0 83 [(5, .int (iI to1)), (4, .int (iI f)), (3, .int (iI (2 * plS))), (0, .ref 33), (1, .ref 6), (2, .ref 19)] [] (MC s0 s1 handN handD gT gF alE actions alM fiF fiN fiD epN epD goH goN goD plS plP plM plA plBN plBD plLN plLD plR veW veF veP vsF vsN vsD juM juP juTN juTD juO scN scD noF noN noD neF neN neD arP arB arM arU arF arR arL arT arA arS leN leD grN grD arH arLU arGU shN shD stF stN stD rest) o mem1 → Rg false (d + 7) m_Judge_findFault n0 43 [(5, .int (iI to)), (4, .int (iI f)), (3, .int (iI (2 * plS))), (0, .ref 33), (1, .ref 6), (2, .ref 19)] [] (MC s0 s1 handN handD gT gF alE actions alM fiF fiN fiD epN epD goH goN goD plS plP plM plA plBN plBD plLN plLD plR veW veF veP vsF vsN vsD juM juP juTN juTD juO scN scD noF noN noD neF neN neD arP arB arM arU arF arR arL arT arA arS leN leD grN grD arH arLU arGU shN shD stF stN stD rest) o mem1 := by
  intro n
  induction n with
  | zero =>
    intro to ht hft hl
    refine ⟨to, hft, by omega, hl, Or.inl (by omega), fun o mem1 hg => ?_⟩
    refine Rg.step 45 F_Judge_findFault_43 rfl (fun _ => rfl) ?_
    refine Rg.step 46 F_Judge_findFault_45 rfl (fun _ => rfl) ?_
    refine Rg.icgeI 83 49 F_Judge_findFault_46 rfl rfl (by omega) (by omega) (fun _ => ?_) (fun h46 => by omega)
    exact Rg.weak hg (by simp [lput1, lput2, Value.category, fi0, fi1, fi2, fi3] <;> first | rfl | exact ⟨rfl, rfl⟩) (by simp [lput1, lput2, Value.category, fi0, fi1, fi2, fi3] <;> first | rfl | exact ⟨rfl, rfl⟩)
  | succ n ih =>
    intro to ht hft hl
    have o1 := hs.1 to (by omega) (by omega)
    have o2 := hs.1 f hf.1 hf.2
    have q1 := hQ _ o1.1 o1.2
    have q2 := hQ _ o2.1 o2.2
    have s1 := (hs.2 f to hf.1 hft (by omega)).1
    have c0 := cmpF_b (juTN (juO to)) (juTD (juO to)) (juTN (juO f)) (juTD (juO f))
    have c1 : cmpF (juTN (juO to)) (juTD (juO to)) (juTN (juO f)) (juTD (juO f)) = 0 ↔ leP juTN juTD (juO to) (juO f) ∧ leP juTN juTD (juO f) (juO to) := cmpF_eq0
    by_cases hc : leP juTN juTD (juO to) (juO f)
    · have c2 := c1.mpr ⟨hc, s1⟩
      obtain ⟨to1, a1, a2, a3, a4, hh⟩ := ih (to + 1) (by omega) (by omega) (fun i z1 z2 => by
        by_cases hi : i = to
        · rw [hi]; exact hc
        · exact hl i z1 (by omega))
      refine ⟨to1, a1, a2, a3, a4, fun o mem1 hg => ?_⟩
      refine Rg.step 45 F_Judge_findFault_43 rfl (fun _ => rfl) ?_
      refine Rg.step 46 F_Judge_findFault_45 rfl (fun _ => rfl) ?_
      refine Rg.icgeI 83 49 F_Judge_findFault_46 rfl rfl (by omega) (by omega) (fun h46 => by omega) (fun _ => ?_)
      refine Rg.step 50 F_Judge_findFault_49 rfl (fun _ => rfl) ?_
      refine Rg.getf 53 F_Judge_findFault_50 rfl rF_12_14 gC_33 rfl ?_
      refine Rg.step 54 F_Judge_findFault_53 rfl (fun _ => rfl) ?_
      refine Rg.getf 57 F_Judge_findFault_54 rfl rF_12_20 gC_33 rfl ?_
      refine Rg.step 59 F_Judge_findFault_57 rfl (fun _ => rfl) ?_
      refine Rg.ild 60 F_Judge_findFault_59 rfl gC_37 (by omega) (by decide) ?_
      refine Rg.step 61 F_Judge_findFault_60 rfl (fun _ => rfl) ?_
      refine Rg.getf 64 F_Judge_findFault_61 rfl rF_12_14 gC_33 rfl ?_
      refine Rg.step 65 F_Judge_findFault_64 rfl (fun _ => rfl) ?_
      refine Rg.getf 68 F_Judge_findFault_65 rfl rF_12_20 gC_33 rfl ?_
      refine Rg.step 70 F_Judge_findFault_68 rfl (fun _ => rfl) ?_
      refine Rg.ild 71 F_Judge_findFault_70 rfl gC_37 (by omega) (by decide) ?_
      refine Rg.call 74 F_Judge_findFault_71 rfl (one_V rM_12_59 (by decide) (by simp) rfl rfl gC_34 rfl) (Nat.le_of_ble_eq_true rfl) (Cg.any (c_FrI_order _ gF_juT gF_juT (by omega) (by omega) (by omega) (by omega) (by omega) (by omega))) ?_
      refine Rg.ifneI 83 77 F_Judge_findFault_74 rfl rfl (by omega) (fun h74 => by omega) (fun _ => ?_)
      refine Rg.inc 80 F_Judge_findFault_77 rfl rfl (by decide) ?_
      refine Rg.step 43 F_Judge_findFault_80 rfl (fun _ => rfl) ?_
      exact Rg.weak (hh o mem1 hg) (by simp [lput1, lput2, Value.category, fi0, fi1, fi2, fi3] <;> first | rfl | exact ⟨rfl, rfl⟩) (by simp [lput1, lput2, Value.category, fi0, fi1, fi2, fi3] <;> first | rfl | exact ⟨rfl, rfl⟩)
    · have c2 : ¬ cmpF (juTN (juO to)) (juTD (juO to)) (juTN (juO f)) (juTD (juO f)) = 0 := fun z => hc (c1.mp z).1
      refine ⟨to, hft, by omega, hl, Or.inr hc, fun o mem1 hg => ?_⟩
      refine Rg.step 45 F_Judge_findFault_43 rfl (fun _ => rfl) ?_
      refine Rg.step 46 F_Judge_findFault_45 rfl (fun _ => rfl) ?_
      refine Rg.icgeI 83 49 F_Judge_findFault_46 rfl rfl (by omega) (by omega) (fun h46 => by omega) (fun _ => ?_)
      refine Rg.step 50 F_Judge_findFault_49 rfl (fun _ => rfl) ?_
      refine Rg.getf 53 F_Judge_findFault_50 rfl rF_12_14 gC_33 rfl ?_
      refine Rg.step 54 F_Judge_findFault_53 rfl (fun _ => rfl) ?_
      refine Rg.getf 57 F_Judge_findFault_54 rfl rF_12_20 gC_33 rfl ?_
      refine Rg.step 59 F_Judge_findFault_57 rfl (fun _ => rfl) ?_
      refine Rg.ild 60 F_Judge_findFault_59 rfl gC_37 (by omega) (by decide) ?_
      refine Rg.step 61 F_Judge_findFault_60 rfl (fun _ => rfl) ?_
      refine Rg.getf 64 F_Judge_findFault_61 rfl rF_12_14 gC_33 rfl ?_
      refine Rg.step 65 F_Judge_findFault_64 rfl (fun _ => rfl) ?_
      refine Rg.getf 68 F_Judge_findFault_65 rfl rF_12_20 gC_33 rfl ?_
      refine Rg.step 70 F_Judge_findFault_68 rfl (fun _ => rfl) ?_
      refine Rg.ild 71 F_Judge_findFault_70 rfl gC_37 (by omega) (by decide) ?_
      refine Rg.call 74 F_Judge_findFault_71 rfl (one_V rM_12_59 (by decide) (by simp) rfl rfl gC_34 rfl) (Nat.le_of_ble_eq_true rfl) (Cg.any (c_FrI_order _ gF_juT gF_juT (by omega) (by omega) (by omega) (by omega) (by omega) (by omega))) ?_
      refine Rg.ifneI 83 77 F_Judge_findFault_74 rfl rfl (by omega) (fun _ => ?_) (fun h74 => by omega)
      exact Rg.weak hg (by simp [lput1, lput2, Value.category, fi0, fi1, fi2, fi3] <;> first | rfl | exact ⟨rfl, rfl⟩) (by simp [lput1, lput2, Value.category, fi0, fi1, fi2, fi3] <;> first | rfl | exact ⟨rfl, rfl⟩)
theorem ff_loop {d n0 : Nat} (hw : WT epsilonN epsilonD wishes wants wantN wantD actions needs needTime needOf needHow needN needD changes changeTime changeOf changeHow changeN changeD lastOf lastN lastD firstN firstD) (hO : ActsOK needs needTime needOf needHow needN needD changes changeTime changeOf changeHow changeN changeD lastOf lastN lastD rest alE actions ab) (hPA : ∀ s, 0 ≤ s → s < plS → 0 ≤ plA s ∧ plA s < actions) (wS : 0 ≤ plS ∧ plS ≤ 12) (hQ : ∀ p, 0 ≤ p → p < 2 * plS → 0 ≤ juTN p ∧ juTN p ≤ 100000000000 ∧ 0 < juTD p ∧ juTD p ≤ 1000000) (hE : epN 0 = epsilonN ∧ epD 0 = epsilonD) (hlen : ∀ s, 0 ≤ s → s < plS → 0 < plLN s ∧ plLN s ≤ 100000000000 ∧ 0 < plLD s ∧ plLD s ≤ 1000000) (hs : Srt juTN juTD juO (2 * plS)) (hlt : ∀ s, 0 ≤ s → s < plS → ¬ leP juTN juTD (2 * s + 1) (2 * s)) (hT : ∀ i, 0 ≤ i → i < 24 → (gT i ↔ i < 16 ∧ wishes i = 1)) (hF : ∀ i, 0 ≤ i → i < 24 → (gF i ↔ i < 16 ∧ wishes i = 0)) (hH : goH = wants) (hgN : goN = wantN) (hgD : goD = wantD) : ∀ (n : Nat) (f : Int) (juP0 : Int) (scN0 : Int → Int) (scD0 : Int → Int) (noF0 : Int → Prop) (noN0 : Int → Int) (noD0 : Int → Int) (neF0 : Int → Prop) (neN0 : Int → Int) (neD0 : Int → Int) (juM0 : Int → Prop), (2 * plS - f).toNat ≤ n → 0 ≤ f → f ≤ 2 * plS → WN noN0 noD0 → OpnI juO plS f juM0 → ∃ (why pt V : Int) (juP1 : Int) (scN1 : Int → Int) (scD1 : Int → Int) (noF1 : Int → Prop) (noN1 : Int → Int) (noD1 : Int → Int) (neF1 : Int → Prop) (neN1 : Int → Int) (neD1 : Int → Int) (juM1 : Int → Prop), JR (2 * plS) (wrongR plS plA needs needTime needHow needOf needN needD lastOf lastN lastD changes changeTime changeHow changeOf epsilonN epsilonD juTN juTD plLN plLD) (fun now S => chRow plA changes changeTime changeOf changeHow changeN changeD now (2 * plS).toNat 0 S) (fun S s => fit needs needTime needOf needHow needN needD S.1 S.2.1 S.2.2 (plA s) 1) (fun gone p => tfst plS juTN juTD gone p) n (grp juO 0 f) (noF0, noN0, noD0) why pt (noF1, noN1, noD1) ∧ WN noN1 noD1 ∧ (0 ≤ why ∧ why ≤ 5) ∧ ((1 ≤ why ∧ V = why ∧ juP1 = pt) ∨ (why = 0 ∧ juP1 = -1 ∧ V = 0 ∧ goal wishes wants wantN wantD noF1 noN1 noD1) ∨ (why = 0 ∧ juP1 = -1 ∧ V = 6 ∧ ¬ goal wishes wants wantN wantD noF1 noN1 noD1)) ∧ Rg false (d + 7) m_Judge_findFault n0 31 [(4, .int (iI f)), (3, .int (iI (2 * plS))), (0, .ref 33), (1, .ref 6), (2, .ref 19)] [] (MC s0 s1 handN handD gT gF alE actions alM fiF fiN fiD epN epD goH goN goD plS plP plM plA plBN plBD plLN plLD plR veW veF veP vsF vsN vsD juM0 juP0 juTN juTD juO scN0 scD0 noF0 noN0 noD0 neF0 neN0 neD0 arP arB arM arU arF arR arL arT arA arS leN leD grN grD arH arLU arGU shN shD stF stN stD rest) (.inl (some (.int (iI V)))) (MC s0 s1 handN handD gT gF alE actions alM fiF fiN fiD epN epD goH goN goD plS plP plM plA plBN plBD plLN plLD plR veW veF veP vsF vsN vsD juM1 juP1 juTN juTD juO scN1 scD1 noF1 noN1 noD1 neF1 neN1 neD1 arP arB arM arU arF arR arL arT arA arS leN leD grN grD arH arLU arGU shN shD stF stN stD rest) := by
  intro n
  induction n with
  | zero =>
    intro f juP0 scN0 scD0 noF0 noN0 noD0 neF0 neN0 neD0 juM0 hn hf hf2 wN hM
    have hall : ∀ p, 0 ≤ p → p < 2 * plS → grp juO 0 f p := fun p z1 z2 => by
      obtain ⟨i, i1, i2, i3⟩ := hs.onto p z1 z2
      exact ⟨i, i1, by omega, i3⟩
    by_cases hgo : goal wishes wants wantN wantD noF0 noN0 noD0
    · refine ⟨0, -1, 0, -1, scN0, scD0, noF0, noN0, noD0, neF0, neN0, neD0, juM0, ⟨hall, rfl, rfl⟩, wN, by omega, Or.inr (Or.inl ⟨rfl, rfl, rfl, hgo⟩), ?_⟩
      refine Rg.step 33 F_Judge_findFault_31 rfl (fun _ => rfl) ?_
      refine Rg.step 34 F_Judge_findFault_33 rfl (fun _ => rfl) ?_
      refine Rg.icgeI 110 37 F_Judge_findFault_34 rfl rfl (by omega) (by omega) (fun _ => ?_) (fun h34 => by omega)
      refine Rg.step 111 F_Judge_findFault_110 rfl (fun _ => rfl) ?_
      refine Rg.step 112 F_Judge_findFault_111 rfl (fun _ => rfl) ?_
      refine Rg.put 115 F_Judge_findFault_112 rfl rF_12_67 gC_33 (by decide) (Nat.le_of_ble_eq_true rfl) (Or.inl rfl) rfl sO_juP ?_
      refine Rg.step 116 F_Judge_findFault_115 rfl (fun _ => rfl) ?_
      refine Rg.step 117 F_Judge_findFault_116 rfl (fun _ => rfl) ?_
      refine Rg.getf 120 F_Judge_findFault_117 rfl rF_12_30 gC_33 rfl ?_
      refine Rg.call 123 F_Judge_findFault_120 rfl (one_V rM_12_70 (by decide) (by simp) rfl rfl gC_6 rfl) (Nat.le_of_ble_eq_true rfl) (Cg.any (c_Task_isGoalMet hw hT hF hH hgN hgD gC_41 gF_no wN)) ?_
      refine Rg.ifeqP 130 126 F_Judge_findFault_123 rfl rfl (fun h123 => absurd hgo h123) (fun _ => ?_)
      refine Rg.step 127 F_Judge_findFault_126 rfl (fun _ => rfl) ?_
      refine Rg.step 132 F_Judge_findFault_127 rfl (fun _ => rfl) ?_
      exact Rg.retI F_Judge_findFault_132 rfl rfl rfl
    · refine ⟨0, -1, 6, -1, scN0, scD0, noF0, noN0, noD0, neF0, neN0, neD0, juM0, ⟨hall, rfl, rfl⟩, wN, by omega, Or.inr (Or.inr ⟨rfl, rfl, rfl, hgo⟩), ?_⟩
      refine Rg.step 33 F_Judge_findFault_31 rfl (fun _ => rfl) ?_
      refine Rg.step 34 F_Judge_findFault_33 rfl (fun _ => rfl) ?_
      refine Rg.icgeI 110 37 F_Judge_findFault_34 rfl rfl (by omega) (by omega) (fun _ => ?_) (fun h34 => by omega)
      refine Rg.step 111 F_Judge_findFault_110 rfl (fun _ => rfl) ?_
      refine Rg.step 112 F_Judge_findFault_111 rfl (fun _ => rfl) ?_
      refine Rg.put 115 F_Judge_findFault_112 rfl rF_12_67 gC_33 (by decide) (Nat.le_of_ble_eq_true rfl) (Or.inl rfl) rfl sO_juP ?_
      refine Rg.step 116 F_Judge_findFault_115 rfl (fun _ => rfl) ?_
      refine Rg.step 117 F_Judge_findFault_116 rfl (fun _ => rfl) ?_
      refine Rg.getf 120 F_Judge_findFault_117 rfl rF_12_30 gC_33 rfl ?_
      refine Rg.call 123 F_Judge_findFault_120 rfl (one_V rM_12_70 (by decide) (by simp) rfl rfl gC_6 rfl) (Nat.le_of_ble_eq_true rfl) (Cg.any (c_Task_isGoalMet hw hT hF hH hgN hgD gC_41 gF_no wN)) ?_
      refine Rg.ifeqP 130 126 F_Judge_findFault_123 rfl rfl (fun _ => ?_) (fun h123 => absurd h123 hgo)
      refine Rg.bip 132 F_Judge_findFault_130 rfl rfl ?_
      exact Rg.retI F_Judge_findFault_132 rfl rfl rfl
  | succ n ih =>
    intro f juP0 scN0 scD0 noF0 noN0 noD0 neF0 neN0 neD0 juM0 hn hf hf2 wN hM
    by_cases hfe : f = 2 * plS
    · skip
      have hall : ∀ p, 0 ≤ p → p < 2 * plS → grp juO 0 f p := fun p z1 z2 => by
        obtain ⟨i, i1, i2, i3⟩ := hs.onto p z1 z2
        exact ⟨i, i1, by omega, i3⟩
      by_cases hgo : goal wishes wants wantN wantD noF0 noN0 noD0
      · refine ⟨0, -1, 0, -1, scN0, scD0, noF0, noN0, noD0, neF0, neN0, neD0, juM0, Or.inl ⟨hall, rfl, rfl⟩, wN, by omega, Or.inr (Or.inl ⟨rfl, rfl, rfl, hgo⟩), ?_⟩
        refine Rg.step 33 F_Judge_findFault_31 rfl (fun _ => rfl) ?_
        refine Rg.step 34 F_Judge_findFault_33 rfl (fun _ => rfl) ?_
        refine Rg.icgeI 110 37 F_Judge_findFault_34 rfl rfl (by omega) (by omega) (fun _ => ?_) (fun h34 => by omega)
        refine Rg.step 111 F_Judge_findFault_110 rfl (fun _ => rfl) ?_
        refine Rg.step 112 F_Judge_findFault_111 rfl (fun _ => rfl) ?_
        refine Rg.put 115 F_Judge_findFault_112 rfl rF_12_67 gC_33 (by decide) (Nat.le_of_ble_eq_true rfl) (Or.inl rfl) rfl sO_juP ?_
        refine Rg.step 116 F_Judge_findFault_115 rfl (fun _ => rfl) ?_
        refine Rg.step 117 F_Judge_findFault_116 rfl (fun _ => rfl) ?_
        refine Rg.getf 120 F_Judge_findFault_117 rfl rF_12_30 gC_33 rfl ?_
        refine Rg.call 123 F_Judge_findFault_120 rfl (one_V rM_12_70 (by decide) (by simp) rfl rfl gC_6 rfl) (Nat.le_of_ble_eq_true rfl) (Cg.any (c_Task_isGoalMet hw hT hF hH hgN hgD gC_41 gF_no wN)) ?_
        refine Rg.ifeqP 130 126 F_Judge_findFault_123 rfl rfl (fun h123 => absurd hgo h123) (fun _ => ?_)
        refine Rg.step 127 F_Judge_findFault_126 rfl (fun _ => rfl) ?_
        refine Rg.step 132 F_Judge_findFault_127 rfl (fun _ => rfl) ?_
        exact Rg.retI F_Judge_findFault_132 rfl rfl rfl
      · refine ⟨0, -1, 6, -1, scN0, scD0, noF0, noN0, noD0, neF0, neN0, neD0, juM0, Or.inl ⟨hall, rfl, rfl⟩, wN, by omega, Or.inr (Or.inr ⟨rfl, rfl, rfl, hgo⟩), ?_⟩
        refine Rg.step 33 F_Judge_findFault_31 rfl (fun _ => rfl) ?_
        refine Rg.step 34 F_Judge_findFault_33 rfl (fun _ => rfl) ?_
        refine Rg.icgeI 110 37 F_Judge_findFault_34 rfl rfl (by omega) (by omega) (fun _ => ?_) (fun h34 => by omega)
        refine Rg.step 111 F_Judge_findFault_110 rfl (fun _ => rfl) ?_
        refine Rg.step 112 F_Judge_findFault_111 rfl (fun _ => rfl) ?_
        refine Rg.put 115 F_Judge_findFault_112 rfl rF_12_67 gC_33 (by decide) (Nat.le_of_ble_eq_true rfl) (Or.inl rfl) rfl sO_juP ?_
        refine Rg.step 116 F_Judge_findFault_115 rfl (fun _ => rfl) ?_
        refine Rg.step 117 F_Judge_findFault_116 rfl (fun _ => rfl) ?_
        refine Rg.getf 120 F_Judge_findFault_117 rfl rF_12_30 gC_33 rfl ?_
        refine Rg.call 123 F_Judge_findFault_120 rfl (one_V rM_12_70 (by decide) (by simp) rfl rfl gC_6 rfl) (Nat.le_of_ble_eq_true rfl) (Cg.any (c_Task_isGoalMet hw hT hF hH hgN hgD gC_41 gF_no wN)) ?_
        refine Rg.ifeqP 130 126 F_Judge_findFault_123 rfl rfl (fun _ => ?_) (fun h123 => absurd h123 hgo)
        refine Rg.bip 132 F_Judge_findFault_130 rfl rfl ?_
        exact Rg.retI F_Judge_findFault_132 rfl rfl rfl
    · have o2 := hs.1 f hf (by omega)
      obtain ⟨to1, a1, a2, a3, a4, hto⟩ := ff_to (d := d) (n0 := n0) (s0 := s0) (s1 := s1) (rest := rest) (handN := handN) (handD := handD) (gT := gT) (gF := gF) (alE := alE) (alM := alM) (fiF := fiF) (fiN := fiN) (fiD := fiD) (epN := epN) (epD := epD) (goH := goH) (goN := goN) (goD := goD) (plS := plS) (plP := plP) (plM := plM) (plA := plA) (plBN := plBN) (plBD := plBD) (plLN := plLN) (plLD := plLD) (plR := plR) (veW := veW) (veF := veF) (veP := veP) (vsF := vsF) (vsN := vsN) (vsD := vsD) (juM := juM0) (juP := juP0) (juTN := juTN) (juTD := juTD) (juO := juO) (scN := scN0) (scD := scD0) (noF := noF0) (noN := noN0) (noD := noD0) (neF := neF0) (neN := neN0) (neD := neD0) (arP := arP) (arB := arB) (arM := arM) (arU := arU) (arF := arF) (arR := arR) (arL := arL) (arT := arT) (arA := arA) (arS := arS) (leN := leN) (leD := leD) (grN := grN) (grD := grD) (arH := arH) (arLU := arLU) (arGU := arGU) (shN := shN) (shD := shD) (stF := stF) (stN := stN) (stD := stD) wS hQ hs (f := f) (by omega) (2 * plS - (f + 1)).toNat (f + 1) (by omega) (by omega) (fun i z1 z2 => by rw [show i = f by omega]; exact leF_refl _ _)
      obtain ⟨why1, pt1, jp, Fa, Na, Da, xa, ya, Fb, Nb, Db, Ka, hP, wN1, hwy, hjp, hop, hcall⟩ := c_Ju_among (d := d) (s0 := s0) (s1 := s1) (rest := rest) (handN := handN) (handD := handD) (gT := gT) (gF := gF) (alE := alE) (alM := alM) (fiF := fiF) (fiN := fiN) (fiD := fiD) (epN := epN) (epD := epD) (goH := goH) (goN := goN) (goD := goD) (plS := plS) (plP := plP) (plM := plM) (plA := plA) (plBN := plBN) (plBD := plBD) (plLN := plLN) (plLD := plLD) (plR := plR) (veW := veW) (veF := veF) (veP := veP) (vsF := vsF) (vsN := vsN) (vsD := vsD) (juM := juM0) (juP := juP0) (juTN := juTN) (juTD := juTD) (juO := juO) (scN := scN0) (scD := scD0) (noF := noF0) (noN := noN0) (noD := noD0) (neF := neF0) (neN := neN0) (neD := neD0) (arP := arP) (arB := arB) (arM := arM) (arU := arU) (arF := arF) (arR := arR) (arL := arL) (arT := arT) (arA := arA) (arS := arS) (leN := leN) (leD := leD) (grN := grN) (grD := grD) (arH := arH) (arLU := arLU) (arGU := arGU) (shN := shN) (shD := shD) (stF := stF) (stN := stN) (stD := stD) hw hO hPA wS hQ hE hlen hs hlt hf a1 a2 a3 wN hM
      have hex : ∃ p, 0 ≤ p ∧ p < 2 * plS ∧ ¬ grp juO 0 f p := ⟨juO f, o2.1, o2.2, fun ⟨i, i1, i2, i3⟩ => hs.inj i f i1 i2 (by omega) i3⟩
      have hT1 : ∀ p, 0 ≤ p → p < 2 * plS → (grp juO f to1 p ↔ tfst plS juTN juTD (grp juO 0 f) p) := fun p z1 z2 => grp_now hs (fun q y1 y2 => (hQ q y1 y2).2.2.1) hf a1 a2 a3 a4 z1 z2
      by_cases hw0 : why1 = 0
      · subst hw0
        obtain ⟨why, pt, V, juP1, scN1, scD1, noF1, noN1, noD1, neF1, neN1, neD1, juM1, hJ, wN2, hwb, hen, ht⟩ := ih to1 jp xa ya Fa Na Da Fb Nb Db Ka (by omega) (by omega) a2 wN1 (hop rfl)
        refine ⟨why, pt, V, juP1, scN1, scD1, noF1, noN1, noD1, neF1, neN1, neD1, juM1, Or.inr ⟨hex, grp juO f to1, 0, pt1, (Fa, Na, Da), grp juO 0 to1, hT1, hP, Or.inr ⟨rfl, hJ⟩⟩, wN2, hwb, hen, ?_⟩
        refine Rg.step 33 F_Judge_findFault_31 rfl (fun _ => rfl) ?_
        refine Rg.step 34 F_Judge_findFault_33 rfl (fun _ => rfl) ?_
        refine Rg.icgeI 110 37 F_Judge_findFault_34 rfl rfl (by omega) (by omega) (fun h34 => by omega) (fun _ => ?_)
        refine Rg.step 39 F_Judge_findFault_37 rfl (fun _ => rfl) ?_
        refine Rg.step 40 F_Judge_findFault_39 rfl (fun _ => rfl) ?_
        refine Rg.addI 41 F_Judge_findFault_40 rfl ?_
        refine Rg.step 43 F_Judge_findFault_41 rfl (fun _ => rfl) ?_
        refine Rg.weak (hto _ _ ?_) (by simp [lput1, lput2, Value.category, fi0, fi1, fi2, fi3] <;> first | rfl | exact ⟨rfl, rfl⟩) (by simp [lput1, lput2, Value.category, fi0, fi1, fi2, fi3] <;> first | rfl | exact ⟨rfl, rfl⟩)
        refine Rg.step 84 F_Judge_findFault_83 rfl (fun _ => rfl) ?_
        refine Rg.step 85 F_Judge_findFault_84 rfl (fun _ => rfl) ?_
        refine Rg.step 86 F_Judge_findFault_85 rfl (fun _ => rfl) ?_
        refine Rg.step 88 F_Judge_findFault_86 rfl (fun _ => rfl) ?_
        refine Rg.step 90 F_Judge_findFault_88 rfl (fun _ => rfl) ?_
        refine Rg.call 93 F_Judge_findFault_90 rfl (one_V rM_12_63 (by decide) (by simp) rfl rfl gC_33 rfl) (Nat.le_of_ble_eq_true rfl) hcall ?_
        refine Rg.step 95 F_Judge_findFault_93 rfl (fun _ => rfl) ?_
        refine Rg.step 97 F_Judge_findFault_95 rfl (fun _ => rfl) ?_
        refine Rg.ifeqI 103 100 F_Judge_findFault_97 rfl rfl (by omega) (fun _ => ?_) (fun h97 => by omega)
        refine Rg.step 105 F_Judge_findFault_103 rfl (fun _ => rfl) ?_
        refine Rg.step 107 F_Judge_findFault_105 rfl (fun _ => rfl) ?_
        refine Rg.step 31 F_Judge_findFault_107 rfl (fun _ => rfl) ?_
        exact Rg.weak ht (by simp [lput1, lput2, Value.category, fi0, fi1, fi2, fi3] <;> first | rfl | exact ⟨rfl, rfl⟩) (by simp [lput1, lput2, Value.category, fi0, fi1, fi2, fi3] <;> first | rfl | exact ⟨rfl, rfl⟩)
      · refine ⟨why1, pt1, why1, jp, xa, ya, Fa, Na, Da, Fb, Nb, Db, Ka, Or.inr ⟨hex, grp juO f to1, why1, pt1, (Fa, Na, Da), grp juO 0 to1, hT1, hP, Or.inl ⟨hw0, rfl, rfl, rfl⟩⟩, wN1, hwy, Or.inl ⟨by omega, rfl, hjp (by omega)⟩, ?_⟩
        refine Rg.step 33 F_Judge_findFault_31 rfl (fun _ => rfl) ?_
        refine Rg.step 34 F_Judge_findFault_33 rfl (fun _ => rfl) ?_
        refine Rg.icgeI 110 37 F_Judge_findFault_34 rfl rfl (by omega) (by omega) (fun h34 => by omega) (fun _ => ?_)
        refine Rg.step 39 F_Judge_findFault_37 rfl (fun _ => rfl) ?_
        refine Rg.step 40 F_Judge_findFault_39 rfl (fun _ => rfl) ?_
        refine Rg.addI 41 F_Judge_findFault_40 rfl ?_
        refine Rg.step 43 F_Judge_findFault_41 rfl (fun _ => rfl) ?_
        refine Rg.weak (hto _ _ ?_) (by simp [lput1, lput2, Value.category, fi0, fi1, fi2, fi3] <;> first | rfl | exact ⟨rfl, rfl⟩) (by simp [lput1, lput2, Value.category, fi0, fi1, fi2, fi3] <;> first | rfl | exact ⟨rfl, rfl⟩)
        refine Rg.step 84 F_Judge_findFault_83 rfl (fun _ => rfl) ?_
        refine Rg.step 85 F_Judge_findFault_84 rfl (fun _ => rfl) ?_
        refine Rg.step 86 F_Judge_findFault_85 rfl (fun _ => rfl) ?_
        refine Rg.step 88 F_Judge_findFault_86 rfl (fun _ => rfl) ?_
        refine Rg.step 90 F_Judge_findFault_88 rfl (fun _ => rfl) ?_
        refine Rg.call 93 F_Judge_findFault_90 rfl (one_V rM_12_63 (by decide) (by simp) rfl rfl gC_33 rfl) (Nat.le_of_ble_eq_true rfl) hcall ?_
        refine Rg.step 95 F_Judge_findFault_93 rfl (fun _ => rfl) ?_
        refine Rg.step 97 F_Judge_findFault_95 rfl (fun _ => rfl) ?_
        refine Rg.ifeqI 103 100 F_Judge_findFault_97 rfl rfl (by omega) (fun h97 => by omega) (fun _ => ?_)
        refine Rg.step 102 F_Judge_findFault_100 rfl (fun _ => rfl) ?_
        exact Rg.retI F_Judge_findFault_102 rfl rfl rfl
theorem c_Ju_findFault {d : Nat} (hw : WT epsilonN epsilonD wishes wants wantN wantD actions needs needTime needOf needHow needN needD changes changeTime changeOf changeHow changeN changeD lastOf lastN lastD firstN firstD) (hO : ActsOK needs needTime needOf needHow needN needD changes changeTime changeOf changeHow changeN changeD lastOf lastN lastD rest alE actions ab) (hPA : ∀ s, 0 ≤ s → s < plS → 0 ≤ plA s ∧ plA s < actions) (wS : 0 ≤ plS ∧ plS ≤ 12) (wP : WPL plS plBN plBD plLN plLD) (hE : epN 0 = epsilonN ∧ epD 0 = epsilonD) (hT : ∀ i, 0 ≤ i → i < 24 → (gT i ↔ i < 16 ∧ wishes i = 1)) (hF : ∀ i, 0 ≤ i → i < 24 → (gF i ↔ i < 16 ∧ wishes i = 0)) (hH : goH = wants) (hgN : goN = wantN) (hgD : goD = wantD) (wF : WN fiN fiD) : ∃ (why pt V : Int) (ord : Int → Int) (juP1 : Int) (scN1 : Int → Int) (scD1 : Int → Int) (noF1 : Int → Prop) (noN1 : Int → Int) (noD1 : Int → Int) (neF1 : Int → Prop) (neN1 : Int → Int) (neD1 : Int → Int) (juM1 : Int → Prop), JR (2 * plS) (wrongR plS plA needs needTime needHow needOf needN needD lastOf lastN lastD changes changeTime changeHow changeOf epsilonN epsilonD (mix (2 * plS) (ptN plBN plBD plLN plLD) juTN) (mix (2 * plS) (ptD plBN plBD plLN plLD) juTD) plLN plLD) (fun now S => chRow plA changes changeTime changeOf changeHow changeN changeD now (2 * plS).toNat 0 S) (fun S s => fit needs needTime needOf needHow needN needD S.1 S.2.1 S.2.2 (plA s) 1) (fun gone p => tfst plS (mix (2 * plS) (ptN plBN plBD plLN plLD) juTN) (mix (2 * plS) (ptD plBN plBD plLN plLD) juTD) gone p) 24 (fun _ => False) (fiF, fiN, fiD) why pt (noF1, noN1, noD1) ∧ WN noN1 noD1 ∧ (0 ≤ why ∧ why ≤ 5) ∧ ((1 ≤ why ∧ V = why ∧ juP1 = pt) ∨ (why = 0 ∧ juP1 = -1 ∧ V = 0 ∧ goal wishes wants wantN wantD noF1 noN1 noD1) ∨ (why = 0 ∧ juP1 = -1 ∧ V = 6 ∧ ¬ goal wishes wants wantN wantD noF1 noN1 noD1)) ∧ Cg false (d + 7) m_Judge_findFault [.ref 33, .ref 6, .ref 19] (MC s0 s1 handN handD gT gF alE actions alM fiF fiN fiD epN epD goH goN goD plS plP plM plA plBN plBD plLN plLD plR veW veF veP vsF vsN vsD juM juP juTN juTD juO scN scD noF noN noD neF neN neD arP arB arM arU arF arR arL arT arA arS leN leD grN grD arH arLU arGU shN shD stF stN stD rest) (.inl (some (.int (iI V)))) (MC s0 s1 handN handD gT gF alE actions alM fiF fiN fiD epN epD goH goN goD plS plP plM plA plBN plBD plLN plLD plR veW veF veP vsF vsN vsD juM1 juP1 (mix (2 * plS) (ptN plBN plBD plLN plLD) juTN) (mix (2 * plS) (ptD plBN plBD plLN plLD) juTD) ord scN1 scD1 noF1 noN1 noD1 neF1 neN1 neD1 arP arB arM arU arF arR arL arT arA arS leN leD grN grD arH arLU arGU shN shD stF stN stD rest) := by
  obtain ⟨ord, hs0, hso⟩ := c_Ju_sort (d := d + 4) (s0 := s0) (s1 := s1) (rest := rest) (handN := handN) (handD := handD) (gT := gT) (gF := gF) (alE := alE) (alS := actions) (alM := alM) (fiF := fiF) (fiN := fiN) (fiD := fiD) (epN := epN) (epD := epD) (goH := goH) (goN := goN) (goD := goD) (plS := plS) (plP := plP) (plM := plM) (plA := plA) (plBN := plBN) (plBD := plBD) (plLN := plLN) (plLD := plLD) (plR := plR) (veW := veW) (veF := veF) (veP := veP) (vsF := vsF) (vsN := vsN) (vsD := vsD) (juM := juM) (juP := juP) (juTN := juTN) (juTD := juTD) (juO := juO) (scN := scN) (scD := scD) (noF := noF) (noN := noN) (noD := noD) (neF := neF) (neN := neN) (neD := neD) (arP := arP) (arB := arB) (arM := arM) (arU := arU) (arF := arF) (arR := arR) (arL := arL) (arT := arT) (arA := arA) (arS := arS) (leN := leN) (leD := leD) (grN := grN) (grD := grD) (arH := arH) (arLU := arLU) (arGU := arGU) (shN := shN) (shD := shD) (stF := stF) (stN := stN) (stD := stD) wS wP
  have hQ : ∀ p, 0 ≤ p → p < 2 * plS → 0 ≤ (mix (2 * plS) (ptN plBN plBD plLN plLD) juTN) p ∧ (mix (2 * plS) (ptN plBN plBD plLN plLD) juTN) p ≤ 100000000000 ∧ 0 < (mix (2 * plS) (ptD plBN plBD plLN plLD) juTD) p ∧ (mix (2 * plS) (ptD plBN plBD plLN plLD) juTD) p ≤ 1000000 := fun p z1 z2 => by
    rw [mix_lt _ _ z2, mix_lt _ _ z2]
    exact WPL_pt wP z1 z2
  have hlen : ∀ s, 0 ≤ s → s < plS → 0 < plLN s ∧ plLN s ≤ 100000000000 ∧ 0 < plLD s ∧ plLD s ≤ 1000000 := fun s z1 z2 => by have := wP s z1 z2; omega
  have lc : ∀ p q, p < 2 * plS → q < 2 * plS → (leP (mix (2 * plS) (ptN plBN plBD plLN plLD) juTN) (mix (2 * plS) (ptD plBN plBD plLN plLD) juTD) p q ↔ leP (ptN plBN plBD plLN plLD) (ptD plBN plBD plLN plLD) p q) := fun p q z1 z2 => leP_c (mix_lt _ _ z1) (mix_lt _ _ z1) (mix_lt _ _ z2) (mix_lt _ _ z2)
  have hs : Srt (mix (2 * plS) (ptN plBN plBD plLN plLD) juTN) (mix (2 * plS) (ptD plBN plBD plLN plLD) juTD) ord (2 * plS) := ⟨hs0.1, fun i j z1 z2 z3 => by
    have o1 := hs0.1 i z1 (by omega)
    have o2 := hs0.1 j (by omega) z3
    have r1 := hs0.2 i j z1 z2 z3
    exact ⟨(lc _ _ o1.2 o2.2).mpr r1.1, fun z => r1.2 ((lc _ _ o2.2 o1.2).mp z)⟩⟩
  have hlt : ∀ s, 0 ≤ s → s < plS → ¬ leP (mix (2 * plS) (ptN plBN plBD plLN plLD) juTN) (mix (2 * plS) (ptD plBN plBD plLN plLD) juTD) (2 * s + 1) (2 * s) := fun s z1 z2 z => pt_lt wP z1 z2 ((lc _ _ (by omega) (by omega)).mp z)
  obtain ⟨why, pt, V, juP1, scN1, scD1, noF1, noN1, noD1, neF1, neN1, neD1, juM1, hJ, wN2, hwb, hen, ht⟩ := ff_loop (d := d) (n0 := (MC s0 s1 handN handD gT gF alE actions alM fiF fiN fiD epN epD goH goN goD plS plP plM plA plBN plBD plLN plLD plR veW veF veP vsF vsN vsD juM juP juTN juTD juO scN scD noF noN noD neF neN neD arP arB arM arU arF arR arL arT arA arS leN leD grN grD arH arLU arGU shN shD stF stN stD rest).length) (s0 := s0) (s1 := s1) (rest := rest) (handN := handN) (handD := handD) (gT := gT) (gF := gF) (alE := alE) (alM := alM) (fiF := fiF) (fiN := fiN) (fiD := fiD) (epN := epN) (epD := epD) (goH := goH) (goN := goN) (goD := goD) (plS := plS) (plP := plP) (plM := plM) (plA := plA) (plBN := plBN) (plBD := plBD) (plLN := plLN) (plLD := plLD) (plR := plR) (veW := veW) (veF := veF) (veP := veP) (vsF := vsF) (vsN := vsN) (vsD := vsD) (juTN := (mix (2 * plS) (ptN plBN plBD plLN plLD) juTN)) (juTD := (mix (2 * plS) (ptD plBN plBD plLN plLD) juTD)) (juO := ord) (arP := arP) (arB := arB) (arM := arM) (arU := arU) (arF := arF) (arR := arR) (arL := arL) (arT := arT) (arA := arA) (arS := arS) (leN := leN) (leD := leD) (grN := grN) (grD := grD) (arH := arH) (arLU := arLU) (arGU := arGU) (shN := shN) (shD := shD) (stF := stF) (stN := stN) (stD := stD) hw hO hPA wS hQ hE hlen hs hlt hT hF hH hgN hgD 24 0 juP scN scD fiF fiN fiD neF neN neD (fun _ => False) (by omega) (by omega) (by omega) wF (fun s z1 z2 => ⟨False.elim, fun ⟨⟨i, i1, i2, _⟩, _⟩ => by omega⟩)
  rw [show grp ord 0 0 = (fun _ => False) from funext (fun p => propext ⟨fun ⟨i, i1, i2, _⟩ => by omega, False.elim⟩)] at hJ
  refine ⟨why, pt, V, ord, juP1, scN1, scD1, noF1, noN1, noD1, neF1, neN1, neD1, juM1, hJ, wN2, hwb, hen, ?_⟩
  have hcf := c_State_copyFrom (d := d + 5) (mem := (MC s0 s1 handN handD gT gF alE actions alM fiF fiN fiD epN epD goH goN goD plS plP plM plA plBN plBD plLN plLD plR veW veF veP vsF vsN vsD juM juP (mix (2 * plS) (ptN plBN plBD plLN plLD) juTN) (mix (2 * plS) (ptD plBN plBD plLN plLD) juTD) ord scN scD noF noN noD neF neN neD arP arB arM arU arF arR arL arT arA arS leN leD grN grD arH arLU arGU shN shD stF stN stD rest)) gC_41 gF_no gC_8 gF_fi (by decide) (by decide) (by decide)
  have e1 : stS (MC s0 s1 handN handD gT gF alE actions alM fiF fiN fiD epN epD goH goN goD plS plP plM plA plBN plBD plLN plLD plR veW veF veP vsF vsN vsD juM juP (mix (2 * plS) (ptN plBN plBD plLN plLD) juTN) (mix (2 * plS) (ptD plBN plBD plLN plLD) juTD) ord scN scD noF noN noD neF neN neD arP arB arM arU arF arR arL arT arA arS leN leD grN grD arH arLU arGU shN shD stF stN stD rest) 41 42 43 44 fiF fiN fiD = (MC s0 s1 handN handD gT gF alE actions alM fiF fiN fiD epN epD goH goN goD plS plP plM plA plBN plBD plLN plLD plR veW veF veP vsF vsN vsD juM juP (mix (2 * plS) (ptN plBN plBD plLN plLD) juTN) (mix (2 * plS) (ptD plBN plBD plLN plLD) juTD) ord scN scD fiF fiN fiD neF neN neD arP arB arM arU arF arR arL arT arA arS leN leD grN grD arH arLU arGU shN shD stF stN stD rest) := by
    unfold stS
    rw [sF_no]
    exact sO_noF
  rw [e1] at hcf
  refine Cg.of (Nat.le_of_ble_eq_true rfl) ?_
  change Rg _ _ _ _ 0 [(0, .ref 33), (1, .ref 6), (2, .ref 19)] [] _ _ _
  refine Rg.step 1 F_Judge_findFault_0 rfl (fun _ => rfl) ?_
  refine Rg.step 2 F_Judge_findFault_1 rfl (fun _ => rfl) ?_
  refine Rg.call 5 F_Judge_findFault_2 rfl (one_V rM_12_37 (by decide) (by simp) rfl rfl gC_33 rfl) (Nat.le_of_ble_eq_true rfl) hso ?_
  refine Rg.step 6 F_Judge_findFault_5 rfl (fun _ => rfl) ?_
  refine Rg.getf 9 F_Judge_findFault_6 rfl rF_12_30 gC_33 rfl ?_
  refine Rg.step 10 F_Judge_findFault_9 rfl (fun _ => rfl) ?_
  refine Rg.getf 13 F_Judge_findFault_10 rfl rF_12_41 gC_6 rfl ?_
  refine Rg.call 16 F_Judge_findFault_13 rfl (one_V rM_12_46 (by decide) (by simp) rfl rfl gC_41 rfl) (Nat.le_of_ble_eq_true rfl) hcf ?_
  refine Rg.step 17 F_Judge_findFault_16 rfl (fun _ => rfl) ?_
  refine Rg.cK0 18 F_Judge_findFault_17 rfl ?_
  refine Rg.put 21 F_Judge_findFault_18 rfl rF_12_50 gC_33 (by decide) (Nat.le_of_ble_eq_true rfl) (Or.inl rfl) rfl sO_juM ?_
  refine Rg.step 22 F_Judge_findFault_21 rfl (fun _ => rfl) ?_
  refine Rg.step 23 F_Judge_findFault_22 rfl (fun _ => rfl) ?_
  refine Rg.getf 26 F_Judge_findFault_23 rfl rF_12_54 gC_19 rfl ?_
  refine Rg.mulI 27 F_Judge_findFault_26 rfl ?_
  refine Rg.step 28 F_Judge_findFault_27 rfl (fun _ => rfl) ?_
  refine Rg.step 29 F_Judge_findFault_28 rfl (fun _ => rfl) ?_
  refine Rg.step 31 F_Judge_findFault_29 rfl (fun _ => rfl) ?_
  exact Rg.weak ht (by simp [lput1, lput2, Value.category, fi0, fi1, fi2, fi3] <;> first | rfl | exact ⟨rfl, rfl⟩) (by simp [lput1, lput2, Value.category, fi0, fi1, fi2, fi3] <;> first | rfl | exact ⟨rfl, rfl⟩)
theorem c_Ve_write_no {d : Nat}  {a b : Int} : Cg false (d + 2) m_Verdict_write [.ref 28, .int (iI a), .int (iI b), .ref 41] (MC s0 s1 handN handD gT gF alE actions alM fiF fiN fiD epN epD goH goN goD plS plP plM plA plBN plBD plLN plLD plR veW veF veP vsF vsN vsD juM juP juTN juTD juO scN scD noF noN noD neF neN neD arP arB arM arU arF arR arL arT arA arS leN leD grN grD arH arLU arGU shN shD stF stN stD rest) (.inl none) (MC s0 s1 handN handD gT gF alE actions alM fiF fiN fiD epN epD goH goN goD plS plP plM plA plBN plBD plLN plLD plR 1 a b noF noN noD juM juP juTN juTD juO scN scD noF noN noD neF neN neD arP arB arM arU arF arR arL arT arA arS leN leD grN grD arH arLU arGU shN shD stF stN stD rest) := by
  have hcf := c_State_copyFrom (d := d) (mem := (MC s0 s1 handN handD gT gF alE actions alM fiF fiN fiD epN epD goH goN goD plS plP plM plA plBN plBD plLN plLD plR 1 a b vsF vsN vsD juM juP juTN juTD juO scN scD noF noN noD neF neN neD arP arB arM arU arF arR arL arT arA arS leN leD grN grD arH arLU arGU shN shD stF stN stD rest)) gC_29 gF_vs gC_41 gF_no (by decide) (by decide) (by decide)
  have e1 : stS (MC s0 s1 handN handD gT gF alE actions alM fiF fiN fiD epN epD goH goN goD plS plP plM plA plBN plBD plLN plLD plR 1 a b vsF vsN vsD juM juP juTN juTD juO scN scD noF noN noD neF neN neD arP arB arM arU arF arR arL arT arA arS leN leD grN grD arH arLU arGU shN shD stF stN stD rest) 29 30 31 32 noF noN noD = (MC s0 s1 handN handD gT gF alE actions alM fiF fiN fiD epN epD goH goN goD plS plP plM plA plBN plBD plLN plLD plR 1 a b noF noN noD juM juP juTN juTD juO scN scD noF noN noD neF neN neD arP arB arM arU arF arR arL arT arA arS leN leD grN grD arH arLU arGU shN shD stF stN stD rest) := by
    unfold stS
    rw [sF_vs]
    exact sO_vsF
  rw [e1] at hcf
  refine Cg.of (Nat.le_of_ble_eq_true rfl) ?_
  change Rg _ _ _ _ 0 [(0, .ref 28), (1, .int (iI a)), (2, .int (iI b)), (3, .ref 41)] [] _ _ _
  refine Rg.step 1 F_Verdict_write_0 rfl (fun _ => rfl) ?_
  refine Rg.step 2 F_Verdict_write_1 rfl (fun _ => rfl) ?_
  refine Rg.put 5 F_Verdict_write_2 rfl rF_11_22 gC_28 (by decide) (Nat.le_of_ble_eq_true rfl) (Or.inl rfl) rfl sO_veW ?_
  refine Rg.step 6 F_Verdict_write_5 rfl (fun _ => rfl) ?_
  refine Rg.step 7 F_Verdict_write_6 rfl (fun _ => rfl) ?_
  refine Rg.put 10 F_Verdict_write_7 rfl rF_11_26 gC_28 (by decide) (Nat.le_of_ble_eq_true rfl) (Or.inl rfl) rfl sO_veF ?_
  refine Rg.step 11 F_Verdict_write_10 rfl (fun _ => rfl) ?_
  refine Rg.step 12 F_Verdict_write_11 rfl (fun _ => rfl) ?_
  refine Rg.put 15 F_Verdict_write_12 rfl rF_11_9 gC_28 (by decide) (Nat.le_of_ble_eq_true rfl) (Or.inl rfl) rfl sO_veP ?_
  refine Rg.step 16 F_Verdict_write_15 rfl (fun _ => rfl) ?_
  refine Rg.getf 19 F_Verdict_write_16 rfl rF_11_18 gC_28 rfl ?_
  refine Rg.step 20 F_Verdict_write_19 rfl (fun _ => rfl) ?_
  refine Rg.call 23 F_Verdict_write_20 rfl (one_V rM_11_29 (by decide) (by simp) rfl rfl gC_29 rfl) (Nat.le_of_ble_eq_true rfl) hcf ?_
  exact Rg.retV F_Verdict_write_23 rfl rfl
theorem c_PJ_judge {d : Nat} (hw : WT epsilonN epsilonD wishes wants wantN wantD actions needs needTime needOf needHow needN needD changes changeTime changeOf changeHow changeN changeD lastOf lastN lastD firstN firstD) (hO : ActsOK needs needTime needOf needHow needN needD changes changeTime changeOf changeHow changeN changeD lastOf lastN lastD rest alE actions ab) (hPA : ∀ s, 0 ≤ s → s < plS → 0 ≤ plA s ∧ plA s < actions) (wS : 0 ≤ plS ∧ plS ≤ 12) (wP : WPL plS plBN plBD plLN plLD) (hE : epN 0 = epsilonN ∧ epD 0 = epsilonD) (hT : ∀ i, 0 ≤ i → i < 24 → (gT i ↔ i < 16 ∧ wishes i = 1)) (hF : ∀ i, 0 ≤ i → i < 24 → (gF i ↔ i < 16 ∧ wishes i = 0)) (hH : goH = wants) (hgN : goN = wantN) (hgD : goD = wantD) (wF : WN fiN fiD) : ∃ (why pt V : Int) (ord : Int → Int) (juP1 : Int) (scN1 : Int → Int) (scD1 : Int → Int) (noF1 : Int → Prop) (noN1 : Int → Int) (noD1 : Int → Int) (neF1 : Int → Prop) (neN1 : Int → Int) (neD1 : Int → Int) (juM1 : Int → Prop), JR (2 * plS) (wrongR plS plA needs needTime needHow needOf needN needD lastOf lastN lastD changes changeTime changeHow changeOf epsilonN epsilonD (mix (2 * plS) (ptN plBN plBD plLN plLD) juTN) (mix (2 * plS) (ptD plBN plBD plLN plLD) juTD) plLN plLD) (fun now S => chRow plA changes changeTime changeOf changeHow changeN changeD now (2 * plS).toNat 0 S) (fun S s => fit needs needTime needOf needHow needN needD S.1 S.2.1 S.2.2 (plA s) 1) (fun gone p => tfst plS (mix (2 * plS) (ptN plBN plBD plLN plLD) juTN) (mix (2 * plS) (ptD plBN plBD plLN plLD) juTD) gone p) 24 (fun _ => False) (fiF, fiN, fiD) why pt (noF1, noN1, noD1) ∧ WN noN1 noD1 ∧ (0 ≤ why ∧ why ≤ 5) ∧ ((1 ≤ why ∧ V = why ∧ juP1 = pt) ∨ (why = 0 ∧ juP1 = -1 ∧ V = 0 ∧ goal wishes wants wantN wantD noF1 noN1 noD1) ∨ (why = 0 ∧ juP1 = -1 ∧ V = 6 ∧ ¬ goal wishes wants wantN wantD noF1 noN1 noD1)) ∧ Cg false (d + 8) m_PJ_judge [.ref 2] (MC s0 s1 handN handD gT gF alE actions alM fiF fiN fiD epN epD goH goN goD plS plP plM plA plBN plBD plLN plLD plR veW veF veP vsF vsN vsD juM juP juTN juTD juO scN scD noF noN noD neF neN neD arP arB arM arU arF arR arL arT arA arS leN leD grN grD arH arLU arGU shN shD stF stN stD rest) (.inl (some (.int (iI V)))) (MC s0 s1 handN handD gT gF alE actions alM fiF fiN fiD epN epD goH goN goD plS plP plM plA plBN plBD plLN plLD plR 1 V juP1 noF1 noN1 noD1 juM1 juP1 (mix (2 * plS) (ptN plBN plBD plLN plLD) juTN) (mix (2 * plS) (ptD plBN plBD plLN plLD) juTD) ord scN1 scD1 noF1 noN1 noD1 neF1 neN1 neD1 arP arB arM arU arF arR arL arT arA arS leN leD grN grD arH arLU arGU shN shD stF stN stD rest) := by
  obtain ⟨why, pt, V, ord, juP1, scN1, scD1, noF1, noN1, noD1, neF1, neN1, neD1, juM1, hJ, wN2, hwb, hen, hc⟩ := c_Ju_findFault (d := d) (s0 := s0) (s1 := s1) (rest := rest) (handN := handN) (handD := handD) (gT := gT) (gF := gF) (alE := alE) (alM := alM) (fiF := fiF) (fiN := fiN) (fiD := fiD) (epN := epN) (epD := epD) (goH := goH) (goN := goN) (goD := goD) (plS := plS) (plP := plP) (plM := plM) (plA := plA) (plBN := plBN) (plBD := plBD) (plLN := plLN) (plLD := plLD) (plR := plR) (veW := veW) (veF := veF) (veP := veP) (vsF := vsF) (vsN := vsN) (vsD := vsD) (juM := juM) (juP := juP) (juTN := juTN) (juTD := juTD) (juO := juO) (scN := scN) (scD := scD) (noF := noF) (noN := noN) (noD := noD) (neF := neF) (neN := neN) (neD := neD) (arP := arP) (arB := arB) (arM := arM) (arU := arU) (arF := arF) (arR := arR) (arL := arL) (arT := arT) (arA := arA) (arS := arS) (leN := leN) (leD := leD) (grN := grN) (grD := grD) (arH := arH) (arLU := arLU) (arGU := arGU) (shN := shN) (shD := shD) (stF := stF) (stN := stN) (stD := stD) hw hO hPA wS wP hE hT hF hH hgN hgD wF
  refine ⟨why, pt, V, ord, juP1, scN1, scD1, noF1, noN1, noD1, neF1, neN1, neD1, juM1, hJ, wN2, hwb, hen, ?_⟩
  refine Cg.of (Nat.le_of_ble_eq_true rfl) ?_
  change Rg _ _ _ _ 0 [(0, .ref 2)] [] _ _ _
  refine Rg.step 1 F_PJ_judge_0 rfl (fun _ => rfl) ?_
  refine Rg.getf 4 F_PJ_judge_1 rfl rF_1_42 gC_2 rfl ?_
  refine Rg.step 5 F_PJ_judge_4 rfl (fun _ => rfl) ?_
  refine Rg.getf 8 F_PJ_judge_5 rfl rF_1_21 gC_2 rfl ?_
  refine Rg.step 9 F_PJ_judge_8 rfl (fun _ => rfl) ?_
  refine Rg.getf 12 F_PJ_judge_9 rfl rF_1_28 gC_2 rfl ?_
  refine Rg.call 15 F_PJ_judge_12 rfl (one_V rM_1_175 (by decide) (by simp) rfl rfl gC_33 rfl) (Nat.le_of_ble_eq_true rfl) hc ?_
  refine Rg.step 16 F_PJ_judge_15 rfl (fun _ => rfl) ?_
  refine Rg.step 17 F_PJ_judge_16 rfl (fun _ => rfl) ?_
  refine Rg.getf 20 F_PJ_judge_17 rfl rF_1_35 gC_2 rfl ?_
  refine Rg.step 21 F_PJ_judge_20 rfl (fun _ => rfl) ?_
  refine Rg.step 22 F_PJ_judge_21 rfl (fun _ => rfl) ?_
  refine Rg.getf 25 F_PJ_judge_22 rfl rF_1_42 gC_2 rfl ?_
  refine Rg.getf 28 F_PJ_judge_25 rfl rF_1_179 gC_33 rfl ?_
  refine Rg.step 29 F_PJ_judge_28 rfl (fun _ => rfl) ?_
  refine Rg.getf 32 F_PJ_judge_29 rfl rF_1_42 gC_2 rfl ?_
  refine Rg.getf 35 F_PJ_judge_32 rfl rF_1_182 gC_33 rfl ?_
  refine Rg.call 38 F_PJ_judge_35 rfl (one_V rM_1_185 (by decide) (by simp) rfl rfl gC_28 rfl) (Nat.le_of_ble_eq_true rfl) c_Ve_write_no ?_
  refine Rg.step 39 F_PJ_judge_38 rfl (fun _ => rfl) ?_
  exact Rg.retI F_PJ_judge_39 rfl rfl rfl
end R72
