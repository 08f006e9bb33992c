/-! The class: times are told; arrange. -/
section R80
variable {s0 s1 : AC} {rest : AM} {ab : Int → Nat}
variable {alS alM plS plP veW veF veP juP arP arB arU arF : Int}
variable {handN handD fiN fiD epN epD goH goN goD plA plBN plBD plLN plLD plR vsN vsD juTN juTD juO scN scD noN noD neN neD arR arL arT arA arS leN leD grN grD arLU arGU shN shD : Int → Int}
variable {stN stD : Int → Int → Int}
variable {stF : Int → Int → Prop}
variable {gT gF fiF plM vsF juM noF neF arM arH : Int → Prop}
variable {alE : Nat}
variable {code amountN amountD momentN momentD epsilonN epsilonD actions steps rows tried triedRows unit point judged fault faultPoint outN outD : Int}
variable {firstN firstD wishes wants wantN wantD needs needTime needOf needHow needN needD changes changeTime changeOf changeHow changeN changeD lastOf lastN lastD stepAction startN startD lengthN lengthD row triedAction triedRow times numN numD oldN oldD toldN toldD pointN pointD leastN leastD greatestN greatestD events : Int → Int}
variable {firstFacts facts oldFacts toldFacts gone now : Int → Prop}
variable {R m : Int}
theorem ttl_loop {d n0 : Nat} (hm : 0 ≤ m ∧ m ≤ 12) (hR : 0 ≤ R ∧ R ≤ 24) (hr : ∀ k, 0 ≤ k → k < R → 0 ≤ arR k ∧ arR k < 2 * m) (hinj : ∀ i j, 0 ≤ i → i < j → j < R → ¬ arR i = arR j) (hS : ∀ k, 0 ≤ k → k < R → ¬ arR k % 2 = 0 → 0 ≤ arS (arR k / 2) ∧ arS (arR k / 2) < 24) (hu : 0 < arU ∧ arU ≤ 100000) (htb : ∀ k, 0 ≤ arT k ∧ arT k ≤ 10000000000000) : ∀ (n : Nat) (k : Int) (plBN0 : Int → Int) (plBD0 : Int → Int) (plLN0 : Int → Int) (plLD0 : Int → Int), k + n = R → 0 ≤ k → (∀ i, 0 ≤ i → i < k → (arR i % 2 = 0 → plBN0 (arR i / 2) = nN (arT i) arU ∧ plBD0 (arR i / 2) = nD (arT i) arU) ∧ (¬ arR i % 2 = 0 → plLN0 (arR i / 2) = nN (arT i - arT (arS (arR i / 2))) arU ∧ plLD0 (arR i / 2) = nD (arT i - arT (arS (arR i / 2))) arU)) → ∃ (plBN1 plBD1 plLN1 plLD1 : Int → Int), (∀ i, 0 ≤ i → i < R → (arR i % 2 = 0 → plBN1 (arR i / 2) = nN (arT i) arU ∧ plBD1 (arR i / 2) = nD (arT i) arU) ∧ (¬ arR i % 2 = 0 → plLN1 (arR i / 2) = nN (arT i - arT (arS (arR i / 2))) arU ∧ plLD1 (arR i / 2) = nD (arT i - arT (arS (arR i / 2))) arU)) ∧ (∀ s, ¬ (0 ≤ s ∧ s < m) → plBN1 s = plBN0 s ∧ plBD1 s = plBD0 s ∧ plLN1 s = plLN0 s ∧ plLD1 s = plLD0 s) ∧ Rg false (d + 1) m_Arranger_tellTimes n0 2 [(2, .int (iI k)), (0, .ref 49), (1, .ref 19)] [] (MC s0 s1 handN handD gT gF alE actions alM fiF fiN fiD epN epD goH goN goD plS plP plM plA plBN0 plBD0 plLN0 plLD0 plR veW veF veP vsF vsN vsD juM juP juTN juTD juO scN scD noF noN noD neF neN neD R arB arM arU arF arR arL arT arA arS leN leD grN grD arH arLU arGU shN shD stF stN stD rest) (.inl none) (MC s0 s1 handN handD gT gF alE actions alM fiF fiN fiD epN epD goH goN goD plS plP plM plA plBN1 plBD1 plLN1 plLD1 plR veW veF veP vsF vsN vsD juM juP juTN juTD juO scN scD noF noN noD neF neN neD R arB arM arU arF arR arL arT arA arS leN leD grN grD arH arLU arGU shN shD stF stN stD rest) := by
  intro n
  induction n with
  | zero =>
    intro k plBN0 plBD0 plLN0 plLD0 hk hk2 hI
    have ek : k = R := by omega
    subst ek
    refine ⟨plBN0, plBD0, plLN0, plLD0, hI, fun s _ => ⟨rfl, rfl, rfl, rfl⟩, ?_⟩
    refine Rg.step 3 F_Arranger_tellTimes_2 rfl (fun _ => rfl) ?_
    refine Rg.step 4 F_Arranger_tellTimes_3 rfl (fun _ => rfl) ?_
    refine Rg.getf 7 F_Arranger_tellTimes_4 rfl rF_13_64 gC_49 rfl ?_
    refine Rg.icgeI 88 10 F_Arranger_tellTimes_7 rfl rfl (by omega) (by omega) (fun _ => ?_) (fun h7 => by omega)
    exact Rg.retV F_Arranger_tellTimes_88 rfl rfl
  | succ n ih =>
    intro k plBN0 plBD0 plLN0 plLD0 hk hk2 hI
    have r1 := hr k hk2 (by omega)
    have t1 := htb k
    by_cases he : arR k % 2 = 0
    · skip
      obtain ⟨plBN1, plBD1, plLN1, plLD1, j1, j2, ht⟩ := ih (k + 1) (up1 plBN0 (arR k / 2) (nN (arT k) arU)) (up1 plBD0 (arR k / 2) (nD (arT k) arU)) plLN0 plLD0 (by omega) (by omega) (fun i z1 z2 => by
        by_cases hi : i = k
        · rw [hi]
          exact ⟨fun _ => ⟨up1_eq _ _ _, up1_eq _ _ _⟩, fun z => absurd he z⟩
        · obtain ⟨y1, y2⟩ := hI i z1 (by omega)
          have hne : ¬ arR i = arR k := hinj i k z1 (by omega) (by omega)
          refine ⟨fun z => ?_, fun z => ?_⟩
          · rw [up1_ne _ _ (by omega), up1_ne _ _ (by omega)]; exact y1 z
          · exact y2 z)
      refine ⟨plBN1, plBD1, plLN1, plLD1, j1, fun s hs => ?_, ?_⟩
      · have := j2 s hs
        rw [up1_ne _ _ (fun z => hs (by omega)), up1_ne _ _ (fun z => hs (by omega))] at this
        exact this
      · skip
        refine Rg.step 3 F_Arranger_tellTimes_2 rfl (fun _ => rfl) ?_
        refine Rg.step 4 F_Arranger_tellTimes_3 rfl (fun _ => rfl) ?_
        refine Rg.getf 7 F_Arranger_tellTimes_4 rfl rF_13_64 gC_49 rfl ?_
        refine Rg.icgeI 88 10 F_Arranger_tellTimes_7 rfl rfl (by omega) (by omega) (fun h7 => by omega) (fun _ => ?_)
        refine Rg.step 11 F_Arranger_tellTimes_10 rfl (fun _ => rfl) ?_
        refine Rg.getf 14 F_Arranger_tellTimes_11 rfl rF_13_17 gC_49 rfl ?_
        refine Rg.step 15 F_Arranger_tellTimes_14 rfl (fun _ => rfl) ?_
        refine Rg.ild 16 F_Arranger_tellTimes_15 rfl gC_51 (by omega) (by decide) ?_
        refine Rg.step 17 F_Arranger_tellTimes_16 rfl (fun _ => rfl) ?_
        refine Rg.divIp 18 F_Arranger_tellTimes_17 rfl (by omega) (by omega) ?_
        refine Rg.step 19 F_Arranger_tellTimes_18 rfl (fun _ => rfl) ?_
        refine Rg.step 20 F_Arranger_tellTimes_19 rfl (fun _ => rfl) ?_
        refine Rg.getf 23 F_Arranger_tellTimes_20 rfl rF_13_17 gC_49 rfl ?_
        refine Rg.step 24 F_Arranger_tellTimes_23 rfl (fun _ => rfl) ?_
        refine Rg.ild 25 F_Arranger_tellTimes_24 rfl gC_51 (by omega) (by decide) ?_
        refine Rg.call 28 F_Arranger_tellTimes_25 rfl (one_S (by decide +kernel) rM_13_134 (by decide) (by simp) rfl rfl) (Nat.le_of_ble_eq_true rfl) (Cg.any (c_PJ_isEnd (by omega))) ?_
        refine Rg.ifeqP 64 31 F_Arranger_tellTimes_28 rfl rfl (fun _ => ?_) (fun h28 => absurd he h28)
        refine Rg.step 65 F_Arranger_tellTimes_64 rfl (fun _ => rfl) ?_
        refine Rg.getf 68 F_Arranger_tellTimes_65 rfl rF_13_169 gC_19 rfl ?_
        refine Rg.step 69 F_Arranger_tellTimes_68 rfl (fun _ => rfl) ?_
        refine Rg.step 70 F_Arranger_tellTimes_69 rfl (fun _ => rfl) ?_
        refine Rg.getf 73 F_Arranger_tellTimes_70 rfl rF_13_24 gC_49 rfl ?_
        refine Rg.step 74 F_Arranger_tellTimes_73 rfl (fun _ => rfl) ?_
        refine Rg.lld 75 F_Arranger_tellTimes_74 rfl gC_53 (by omega) (by decide) ?_
        refine Rg.step 76 F_Arranger_tellTimes_75 rfl (fun _ => rfl) ?_
        refine Rg.getf 79 F_Arranger_tellTimes_76 rfl rF_13_161 gC_49 rfl ?_
        refine Rg.call 82 F_Arranger_tellTimes_79 rfl (one_V rM_13_165 (by decide) (by simp) rfl rfl gC_21 rfl) (Nat.le_of_ble_eq_true rfl) (Cg.toM sF_plB (c_FrI_put _ gF_plB (by omega) (by omega) (by omega))) ?_
        refine Rg.inc 85 F_Arranger_tellTimes_82 rfl rfl (by decide) ?_
        refine Rg.step 2 F_Arranger_tellTimes_85 rfl (fun _ => rfl) ?_
        exact Rg.weak ht (by simp [lput1, lput2, Value.category, fi0, fi1, fi2, fi3] <;> first | rfl | exact ⟨rfl, rfl⟩) (by simp [lput1, lput2, Value.category, fi0, fi1, fi2, fi3] <;> first | rfl | exact ⟨rfl, rfl⟩)
    · have s1 := hS k hk2 (by omega) he
      have t2 := htb (arS (arR k / 2))
      obtain ⟨plBN1, plBD1, plLN1, plLD1, j1, j2, ht⟩ := ih (k + 1) plBN0 plBD0 (up1 plLN0 (arR k / 2) (nN (arT k - arT (arS (arR k / 2))) arU)) (up1 plLD0 (arR k / 2) (nD (arT k - arT (arS (arR k / 2))) arU)) (by omega) (by omega) (fun i z1 z2 => by
        by_cases hi : i = k
        · rw [hi]
          exact ⟨fun z => absurd z he, fun _ => ⟨up1_eq _ _ _, up1_eq _ _ _⟩⟩
        · obtain ⟨y1, y2⟩ := hI i z1 (by omega)
          have hne : ¬ arR i = arR k := hinj i k z1 (by omega) (by omega)
          refine ⟨fun z => ?_, fun z => ?_⟩
          · exact y1 z
          · rw [up1_ne _ _ (by omega), up1_ne _ _ (by omega)]; exact y2 z)
      refine ⟨plBN1, plBD1, plLN1, plLD1, j1, fun s hs => ?_, ?_⟩
      · have := j2 s hs
        rw [up1_ne _ _ (fun z => hs (by omega)), up1_ne _ _ (fun z => hs (by omega))] at this
        exact this
      · skip
        refine Rg.step 3 F_Arranger_tellTimes_2 rfl (fun _ => rfl) ?_
        refine Rg.step 4 F_Arranger_tellTimes_3 rfl (fun _ => rfl) ?_
        refine Rg.getf 7 F_Arranger_tellTimes_4 rfl rF_13_64 gC_49 rfl ?_
        refine Rg.icgeI 88 10 F_Arranger_tellTimes_7 rfl rfl (by omega) (by omega) (fun h7 => by omega) (fun _ => ?_)
        refine Rg.step 11 F_Arranger_tellTimes_10 rfl (fun _ => rfl) ?_
        refine Rg.getf 14 F_Arranger_tellTimes_11 rfl rF_13_17 gC_49 rfl ?_
        refine Rg.step 15 F_Arranger_tellTimes_14 rfl (fun _ => rfl) ?_
        refine Rg.ild 16 F_Arranger_tellTimes_15 rfl gC_51 (by omega) (by decide) ?_
        refine Rg.step 17 F_Arranger_tellTimes_16 rfl (fun _ => rfl) ?_
        refine Rg.divIp 18 F_Arranger_tellTimes_17 rfl (by omega) (by omega) ?_
        refine Rg.step 19 F_Arranger_tellTimes_18 rfl (fun _ => rfl) ?_
        refine Rg.step 20 F_Arranger_tellTimes_19 rfl (fun _ => rfl) ?_
        refine Rg.getf 23 F_Arranger_tellTimes_20 rfl rF_13_17 gC_49 rfl ?_
        refine Rg.step 24 F_Arranger_tellTimes_23 rfl (fun _ => rfl) ?_
        refine Rg.ild 25 F_Arranger_tellTimes_24 rfl gC_51 (by omega) (by decide) ?_
        refine Rg.call 28 F_Arranger_tellTimes_25 rfl (one_S (by decide +kernel) rM_13_134 (by decide) (by simp) rfl rfl) (Nat.le_of_ble_eq_true rfl) (Cg.any (c_PJ_isEnd (by omega))) ?_
        refine Rg.ifeqP 64 31 F_Arranger_tellTimes_28 rfl rfl (fun h28 => absurd he h28) (fun _ => ?_)
        refine Rg.step 32 F_Arranger_tellTimes_31 rfl (fun _ => rfl) ?_
        refine Rg.getf 35 F_Arranger_tellTimes_32 rfl rF_13_158 gC_19 rfl ?_
        refine Rg.step 36 F_Arranger_tellTimes_35 rfl (fun _ => rfl) ?_
        refine Rg.step 37 F_Arranger_tellTimes_36 rfl (fun _ => rfl) ?_
        refine Rg.getf 40 F_Arranger_tellTimes_37 rfl rF_13_24 gC_49 rfl ?_
        refine Rg.step 41 F_Arranger_tellTimes_40 rfl (fun _ => rfl) ?_
        refine Rg.lld 42 F_Arranger_tellTimes_41 rfl gC_53 (by omega) (by decide) ?_
        refine Rg.step 43 F_Arranger_tellTimes_42 rfl (fun _ => rfl) ?_
        refine Rg.getf 46 F_Arranger_tellTimes_43 rfl rF_13_24 gC_49 rfl ?_
        refine Rg.step 47 F_Arranger_tellTimes_46 rfl (fun _ => rfl) ?_
        refine Rg.getf 50 F_Arranger_tellTimes_47 rfl rF_13_31 gC_49 rfl ?_
        refine Rg.step 51 F_Arranger_tellTimes_50 rfl (fun _ => rfl) ?_
        refine Rg.ild 52 F_Arranger_tellTimes_51 rfl gC_55 (by omega) (by decide) ?_
        refine Rg.lld 53 F_Arranger_tellTimes_52 rfl gC_53 (by omega) (by decide) ?_
        refine Rg.subL 54 F_Arranger_tellTimes_53 rfl ?_
        refine Rg.step 55 F_Arranger_tellTimes_54 rfl (fun _ => rfl) ?_
        refine Rg.getf 58 F_Arranger_tellTimes_55 rfl rF_13_161 gC_49 rfl ?_
        refine Rg.call 61 F_Arranger_tellTimes_58 rfl (one_V rM_13_165 (by decide) (by simp) rfl rfl gC_24 rfl) (Nat.le_of_ble_eq_true rfl) (Cg.toM sF_plL (c_FrI_put _ gF_plL (by omega) (by omega) (by omega))) ?_
        refine Rg.step 82 F_Arranger_tellTimes_61 rfl (fun _ => rfl) ?_
        refine Rg.inc 85 F_Arranger_tellTimes_82 rfl rfl (by decide) ?_
        refine Rg.step 2 F_Arranger_tellTimes_85 rfl (fun _ => rfl) ?_
        exact Rg.weak ht (by simp [lput1, lput2, Value.category, fi0, fi1, fi2, fi3] <;> first | rfl | exact ⟨rfl, rfl⟩) (by simp [lput1, lput2, Value.category, fi0, fi1, fi2, fi3] <;> first | rfl | exact ⟨rfl, rfl⟩)
theorem c_Ar_tell {d : Nat} (hm : 0 ≤ m ∧ m ≤ 12) (hR : 0 ≤ R ∧ R ≤ 24) (hr : ∀ k, 0 ≤ k → k < R → 0 ≤ arR k ∧ arR k < 2 * m) (hinj : ∀ i j, 0 ≤ i → i < j → j < R → ¬ arR i = arR j) (hS : ∀ k, 0 ≤ k → k < R → ¬ arR k % 2 = 0 → 0 ≤ arS (arR k / 2) ∧ arS (arR k / 2) < 24) (hu : 0 < arU ∧ arU ≤ 100000) (htb : ∀ k, 0 ≤ arT k ∧ arT k ≤ 10000000000000) : ∃ (plBN1 plBD1 plLN1 plLD1 : Int → Int), (∀ i, 0 ≤ i → i < R → (arR i % 2 = 0 → plBN1 (arR i / 2) = nN (arT i) arU ∧ plBD1 (arR i / 2) = nD (arT i) arU) ∧ (¬ arR i % 2 = 0 → plLN1 (arR i / 2) = nN (arT i - arT (arS (arR i / 2))) arU ∧ plLD1 (arR i / 2) = nD (arT i - arT (arS (arR i / 2))) arU)) ∧ (∀ s, ¬ (0 ≤ s ∧ s < m) → plBN1 s = plBN s ∧ plBD1 s = plBD s ∧ plLN1 s = plLN s ∧ plLD1 s = plLD s) ∧ Cg false (d + 1) m_Arranger_tellTimes [.ref 49, .ref 19] (MC s0 s1 handN handD gT gF alE actions alM fiF fiN fiD epN epD goH goN goD plS plP plM plA plBN plBD plLN plLD plR veW veF veP vsF vsN vsD juM juP juTN juTD juO scN scD noF noN noD neF neN neD R arB arM arU arF arR arL arT arA arS leN leD grN grD arH arLU arGU shN shD stF stN stD rest) (.inl none) (MC s0 s1 handN handD gT gF alE actions alM fiF fiN fiD epN epD goH goN goD plS plP plM plA plBN1 plBD1 plLN1 plLD1 plR veW veF veP vsF vsN vsD juM juP juTN juTD juO scN scD noF noN noD neF neN neD R arB arM arU arF arR arL arT arA arS leN leD grN grD arH arLU arGU shN shD stF stN stD rest) := by
  obtain ⟨plBN1, plBD1, plLN1, plLD1, j1, j2, ht⟩ := ttl_loop (d := d) (n0 := (MC s0 s1 handN handD gT gF alE actions alM fiF fiN fiD epN epD goH goN goD plS plP plM plA plBN plBD plLN plLD plR veW veF veP vsF vsN vsD juM juP juTN juTD juO scN scD noF noN noD neF neN neD R arB arM arU arF arR arL arT arA arS leN leD grN grD arH arLU arGU shN shD stF stN stD rest).length) (s0 := s0) (s1 := s1) (rest := rest) (handN := handN) (handD := handD) (gT := gT) (gF := gF) (alE := alE) (alM := alM) (fiF := fiF) (fiN := fiN) (fiD := fiD) (epN := epN) (epD := epD) (goH := goH) (goN := goN) (goD := goD) (plS := plS) (plP := plP) (plM := plM) (plA := plA) (plR := plR) (veW := veW) (veF := veF) (veP := veP) (vsF := vsF) (vsN := vsN) (vsD := vsD) (juM := juM) (juP := juP) (juTN := juTN) (juTD := juTD) (juO := juO) (scN := scN) (scD := scD) (noF := noF) (noN := noN) (noD := noD) (neF := neF) (neN := neN) (neD := neD) (arB := arB) (arM := arM) (arU := arU) (arF := arF) (arR := arR) (arL := arL) (arT := arT) (arA := arA) (arS := arS) (leN := leN) (leD := leD) (grN := grN) (grD := grD) (arH := arH) (arLU := arLU) (arGU := arGU) (shN := shN) (shD := shD) (stF := stF) (stN := stN) (stD := stD) hm hR hr hinj hS hu htb R.toNat 0 plBN plBD plLN plLD (by omega) (by omega) (fun i z1 z2 => by omega)
  refine ⟨plBN1, plBD1, plLN1, plLD1, j1, j2, ?_⟩
  refine Cg.of (Nat.le_of_ble_eq_true rfl) ?_
  change Rg _ _ _ _ 0 [(0, .ref 49), (1, .ref 19)] [] _ _ _
  refine Rg.step 1 F_Arranger_tellTimes_0 rfl (fun _ => rfl) ?_
  refine Rg.step 2 F_Arranger_tellTimes_1 rfl (fun _ => rfl) ?_
  exact Rg.weak ht (by simp [lput1, lput2, Value.category, fi0, fi1, fi2, fi3] <;> first | rfl | exact ⟨rfl, rfl⟩) (by simp [lput1, lput2, Value.category, fi0, fi1, fi2, fi3] <;> first | rfl | exact ⟨rfl, rfl⟩)
variable {k : Int}
theorem c_Ar_reach5 {d : Nat}  {w : Int} (hw5 : w = 5) (hk : 0 ≤ k + 1 ∧ k + 1 < 25) : Cg true d m_Arranger_reached [.ref 49, .int (iI w)] (MC s0 s1 handN handD gT gF alE actions alM fiF fiN fiD epN epD goH goN goD plS plP plM plA plBN plBD plLN plLD plR veW veF veP vsF vsN vsD juM juP juTN juTD juO scN scD noF noN noD neF neN neD k arB arM arU arF arR arL arT arA arS leN leD grN grD arH arLU arGU shN shD stF stN stD rest) (.inl (some (.ref (68 + 4 * (k + 1).toNat)))) (MC s0 s1 handN handD gT gF alE actions alM fiF fiN fiD epN epD goH goN goD plS plP plM plA plBN plBD plLN plLD plR veW veF veP vsF vsN vsD juM juP juTN juTD juO scN scD noF noN noD neF neN neD k arB arM arU arF arR arL arT arA arS leN leD grN grD arH arLU arGU shN shD stF stN stD rest) := by
  refine Cg.of (Nat.le_of_ble_eq_true rfl) ?_
  change Rg _ _ _ _ 0 [(0, .ref 49), (1, .int (iI w))] [] _ _ _
  refine Rg.step 1 F_Arranger_reached_0 rfl (fun _ => rfl) ?_
  refine Rg.getf 4 F_Arranger_reached_1 rfl rF_13_11 gC_49 rfl ?_
  refine Rg.step 5 F_Arranger_reached_4 rfl (fun _ => rfl) ?_
  refine Rg.step 6 F_Arranger_reached_5 rfl (fun _ => rfl) ?_
  refine Rg.icneI 18 9 F_Arranger_reached_6 rfl rfl (by omega) (by omega) (fun h6 => by omega) (fun _ => ?_)
  refine Rg.step 10 F_Arranger_reached_9 rfl (fun _ => rfl) ?_
  refine Rg.getf 13 F_Arranger_reached_10 rfl rF_13_64 gC_49 rfl ?_
  refine Rg.step 14 F_Arranger_reached_13 rfl (fun _ => rfl) ?_
  refine Rg.addI 15 F_Arranger_reached_14 rfl ?_
  refine Rg.step 22 F_Arranger_reached_15 rfl (fun _ => rfl) ?_
  refine Rg.aald 23 F_Arranger_reached_22 rfl gC_50 (ix_iI (by omega)) (gStates hk) ?_
  exact Rg.ret F_Arranger_reached_23 rfl
theorem c_Ar_reach {d : Nat}  {w : Int} (hwb : -2147483648 ≤ w ∧ w < 2147483648) (hw5 : ¬ w = 5) (hk : 0 ≤ k ∧ k < 25) : Cg true d m_Arranger_reached [.ref 49, .int (iI w)] (MC s0 s1 handN handD gT gF alE actions alM fiF fiN fiD epN epD goH goN goD plS plP plM plA plBN plBD plLN plLD plR veW veF veP vsF vsN vsD juM juP juTN juTD juO scN scD noF noN noD neF neN neD k arB arM arU arF arR arL arT arA arS leN leD grN grD arH arLU arGU shN shD stF stN stD rest) (.inl (some (.ref (68 + 4 * k.toNat)))) (MC s0 s1 handN handD gT gF alE actions alM fiF fiN fiD epN epD goH goN goD plS plP plM plA plBN plBD plLN plLD plR veW veF veP vsF vsN vsD juM juP juTN juTD juO scN scD noF noN noD neF neN neD k arB arM arU arF arR arL arT arA arS leN leD grN grD arH arLU arGU shN shD stF stN stD rest) := by
  refine Cg.of (Nat.le_of_ble_eq_true rfl) ?_
  change Rg _ _ _ _ 0 [(0, .ref 49), (1, .int (iI w))] [] _ _ _
  refine Rg.step 1 F_Arranger_reached_0 rfl (fun _ => rfl) ?_
  refine Rg.getf 4 F_Arranger_reached_1 rfl rF_13_11 gC_49 rfl ?_
  refine Rg.step 5 F_Arranger_reached_4 rfl (fun _ => rfl) ?_
  refine Rg.step 6 F_Arranger_reached_5 rfl (fun _ => rfl) ?_
  refine Rg.icneI 18 9 F_Arranger_reached_6 rfl rfl (by omega) (by omega) (fun _ => ?_) (fun h6 => by omega)
  refine Rg.step 19 F_Arranger_reached_18 rfl (fun _ => rfl) ?_
  refine Rg.getf 22 F_Arranger_reached_19 rfl rF_13_64 gC_49 rfl ?_
  refine Rg.aald 23 F_Arranger_reached_22 rfl gC_50 (ix_iI (by omega)) (gStates hk) ?_
  exact Rg.ret F_Arranger_reached_23 rfl
theorem c_Ve_write_st {d : Nat} {a b : Int} (hk : 0 ≤ k ∧ k < 25) : Cg false (d + 2) m_Verdict_write [.ref 28, .int (iI a), .int (iI b), .ref (68 + 4 * k.toNat)] (MC s0 s1 handN handD gT gF alE actions alM fiF fiN fiD epN epD goH goN goD plS plP plM plA plBN plBD plLN plLD plR veW veF veP vsF vsN vsD juM juP juTN juTD juO scN scD noF noN noD neF neN neD arP arB arM arU arF arR arL arT arA arS leN leD grN grD arH arLU arGU shN shD stF stN stD rest) (.inl none) (MC s0 s1 handN handD gT gF alE actions alM fiF fiN fiD epN epD goH goN goD plS plP plM plA plBN plBD plLN plLD plR 1 a b (stF k) (stN k) (stD k) juM juP juTN juTD juO scN scD noF noN noD neF neN neD arP arB arM arU arF arR arL arT arA arS leN leD grN grD arH arLU arGU shN shD stF stN stD rest) := by
  have hcf := c_State_copyFrom (d := d) (mem := (MC s0 s1 handN handD gT gF alE actions alM fiF fiN fiD epN epD goH goN goD plS plP plM plA plBN plBD plLN plLD plR 1 a b vsF vsN vsD juM juP juTN juTD juO scN scD noF noN noD neF neN neD arP arB arM arU arF arR arL arT arA arS leN leD grN grD arH arLU arGU shN shD stF stN stD rest)) gC_29 gF_vs (gS_State hk) (gF_st hk) (by decide) (by omega) (by omega)
  have e1 : stS (MC s0 s1 handN handD gT gF alE actions alM fiF fiN fiD epN epD goH goN goD plS plP plM plA plBN plBD plLN plLD plR 1 a b vsF vsN vsD juM juP juTN juTD juO scN scD noF noN noD neF neN neD arP arB arM arU arF arR arL arT arA arS leN leD grN grD arH arLU arGU shN shD stF stN stD rest) 29 30 31 32 (stF k) (stN k) (stD k) = (MC s0 s1 handN handD gT gF alE actions alM fiF fiN fiD epN epD goH goN goD plS plP plM plA plBN plBD plLN plLD plR 1 a b (stF k) (stN k) (stD k) juM juP juTN juTD juO scN scD noF noN noD neF neN neD arP arB arM arU arF arR arL arT arA arS leN leD grN grD arH arLU arGU shN shD stF stN stD rest) := by
    unfold stS
    rw [sF_vs]
    exact sO_vsF
  rw [e1] at hcf
  refine Cg.of (Nat.le_of_ble_eq_true rfl) ?_
  change Rg _ _ _ _ 0 [(0, .ref 28), (1, .int (iI a)), (2, .int (iI b)), (3, .ref (68 + 4 * k.toNat))] [] _ _ _
  refine Rg.step 1 F_Verdict_write_0 rfl (fun _ => rfl) ?_
  refine Rg.step 2 F_Verdict_write_1 rfl (fun _ => rfl) ?_
  refine Rg.put 5 F_Verdict_write_2 rfl rF_11_22 gC_28 (by decide) (Nat.le_of_ble_eq_true rfl) (Or.inl rfl) rfl sO_veW ?_
  refine Rg.step 6 F_Verdict_write_5 rfl (fun _ => rfl) ?_
  refine Rg.step 7 F_Verdict_write_6 rfl (fun _ => rfl) ?_
  refine Rg.put 10 F_Verdict_write_7 rfl rF_11_26 gC_28 (by decide) (Nat.le_of_ble_eq_true rfl) (Or.inl rfl) rfl sO_veF ?_
  refine Rg.step 11 F_Verdict_write_10 rfl (fun _ => rfl) ?_
  refine Rg.step 12 F_Verdict_write_11 rfl (fun _ => rfl) ?_
  refine Rg.put 15 F_Verdict_write_12 rfl rF_11_9 gC_28 (by decide) (Nat.le_of_ble_eq_true rfl) (Or.inl rfl) rfl sO_veP ?_
  refine Rg.step 16 F_Verdict_write_15 rfl (fun _ => rfl) ?_
  refine Rg.getf 19 F_Verdict_write_16 rfl rF_11_18 gC_28 rfl ?_
  refine Rg.step 20 F_Verdict_write_19 rfl (fun _ => rfl) ?_
  refine Rg.call 23 F_Verdict_write_20 rfl (one_V rM_11_29 (by decide) (by simp) rfl rfl gC_29 rfl) (Nat.le_of_ble_eq_true rfl) hcf ?_
  exact Rg.retV F_Verdict_write_23 rfl rfl
theorem c_PJ_arr_no {d : Nat} (wS : 0 ≤ plS ∧ plS ≤ 12) (wP : 0 ≤ plP ∧ plP ≤ 24) (h : plP < 2 * plS) : Cg true d m_PJ_arrange [.ref 2] (MC s0 s1 handN handD gT gF alE actions alM fiF fiN fiD epN epD goH goN goD plS plP plM plA plBN plBD plLN plLD plR veW veF veP vsF vsN vsD juM juP juTN juTD juO scN scD noF noN noD neF neN neD arP arB arM arU arF arR arL arT arA arS leN leD grN grD arH arLU arGU shN shD stF stN stD rest) (.inr (MC s0 s1 handN handD gT gF alE actions alM fiF fiN fiD epN epD goH goN goD plS plP plM plA plBN plBD plLN plLD plR veW veF veP vsF vsN vsD juM juP juTN juTD juO scN scD noF noN noD neF neN neD arP arB arM arU arF arR arL arT arA arS leN leD grN grD arH arLU arGU shN shD stF stN stD rest).length) ((MC s0 s1 handN handD gT gF alE actions alM fiF fiN fiD epN epD goH goN goD plS plP plM plA plBN plBD plLN plLD plR veW veF veP vsF vsN vsD juM juP juTN juTD juO scN scD noF noN noD neF neN neD arP arB arM arU arF arR arL arT arA arS leN leD grN grD arH arLU arGU shN shD stF stN stD rest) ++ [.inr (14, [])]) := by
  refine Cg.of (Nat.le_of_ble_eq_true rfl) ?_
  change Rg _ _ _ _ 0 [(0, .ref 2)] [] _ _ _
  refine Rg.step 1 F_PJ_arrange_0 rfl (fun _ => rfl) ?_
  refine Rg.getf 4 F_PJ_arrange_1 rfl rF_1_28 gC_2 rfl ?_
  refine Rg.getf 7 F_PJ_arrange_4 rfl rF_1_202 gC_19 rfl ?_
  refine Rg.step 8 F_PJ_arrange_7 rfl (fun _ => rfl) ?_
  refine Rg.step 9 F_PJ_arrange_8 rfl (fun _ => rfl) ?_
  refine Rg.getf 12 F_PJ_arrange_9 rfl rF_1_28 gC_2 rfl ?_
  refine Rg.getf 15 F_PJ_arrange_12 rfl rF_1_160 gC_19 rfl ?_
  refine Rg.mulI 16 F_PJ_arrange_15 rfl ?_
  refine Rg.icgeI 27 19 F_PJ_arrange_16 rfl rfl (by omega) (by omega) (fun h16 => by omega) (fun _ => ?_)
  exact Rg.thr F_PJ_arrange_19 F_PJ_arrange_22 F_PJ_arrange_23 F_PJ_arrange_26 rC_1_196 rfl (by decide) rE_1_198 rfl rfl (by decide)
theorem c_PJ_arrange {d : Nat} (hw : WT epsilonN epsilonD wishes wants wantN wantD actions needs needTime needOf needHow needN needD changes changeTime changeOf changeHow changeN changeD lastOf lastN lastD firstN firstD) (hO : ActsOK needs needTime needOf needHow needN needD changes changeTime changeOf changeHow changeN changeD lastOf lastN lastD rest alE actions ab) (hE : epN 0 = epsilonN ∧ epD 0 = epsilonD) (he : Int.gcd epsilonN epsilonD = 1) (hT : ∀ i, 0 ≤ i → i < 24 → (gT i ↔ i < 16 ∧ wishes i = 1)) (hF : ∀ i, 0 ≤ i → i < 24 → (gF i ↔ i < 16 ∧ wishes i = 0)) (hH : goH = wants) (hgN : goN = wantN) (hgD : goD = wantD) (wS : 0 ≤ plS ∧ plS ≤ 12) (hPP : plP = 2 * plS) (hok : ∀ k, 0 ≤ k → k < plP → RowOK plR plS k) (hPA : ∀ s, 0 ≤ s → s < plS → 0 ≤ plA s ∧ plA s < actions) (wF : WN fiN fiD) : ∃ (why pt : Int) (F1 : Int → Prop) (N1 D1 : Int → Int) (arP1 : Int) (arF1 : Int) (arU1 : Int) (arT1 : Int → Int) (shN1 : Int → Int) (shD1 : Int → Int) (arLU1 : Int → Int) (arGU1 : Int → Int) (arB1 : Int) (arM1 : Int → Prop) (arR1 : Int → Int) (arL1 : Int → Int) (arA1 : Int → Int) (arS1 : Int → Int) (leN1 : Int → Int) (leD1 : Int → Int) (grN1 : Int → Int) (grD1 : Int → Int) (arH1 : Int → Prop) (stF1 : Int → Int → Prop) (stN1 : Int → Int → Int) (stD1 : Int → Int → Int), ArrR plS plP plR (fun S s t => fit needs needTime needOf needHow needN needD S.1 S.2.1 S.2.2 (plA s) t) (fun S p => chAll changeTime changeOf changeHow changeN changeD (tmo p) (changes (plA (p / 2))).toNat (6 * plA (p / 2)) S) (fun S s => (lbN lastOf lastN lastD epsilonN epsilonD S.2.1 S.2.2 (plA s), lbD lastOf lastN lastD epsilonN epsilonD S.2.1 S.2.2 (plA s), gbN lastOf lastN lastD S.2.1 S.2.2 (plA s), gbD lastOf lastN lastD S.2.1 S.2.2 (plA s))) (fun S => goal wishes wants wantN wantD S.1 S.2.1 S.2.2) (intP plA needs needTime needHow needOf lastOf changes changeTime changeHow changeOf) epsilonN epsilonD (fiF, fiN, fiD) why pt (F1, N1, D1) arU1 (fun p => arT1 (posP arR1 plP p)) ∧ WN N1 D1 ∧ (0 ≤ why ∧ why ≤ 8) ∧ (1 ≤ why → why ≤ 5 → arF1 = pt) ∧ (why = 0 ∨ 6 ≤ why → arF1 = -1) ∧ ((¬ why = 0 ∧ Cg false (d + 7) m_PJ_arrange [.ref 2] (MC s0 s1 handN handD gT gF alE actions alM fiF fiN fiD epN epD goH goN goD plS plP plM plA plBN plBD plLN plLD plR veW veF veP vsF vsN vsD juM juP juTN juTD juO scN scD noF noN noD neF neN neD arP arB arM arU arF arR arL arT arA arS leN leD grN grD arH arLU arGU shN shD stF stN stD rest) (.inl (some (.int (iI why)))) (MC s0 s1 handN handD gT gF alE actions alM fiF fiN fiD epN epD goH goN goD plS plP plM plA plBN plBD plLN plLD plR 1 why arF1 F1 N1 D1 juM juP juTN juTD juO scN scD noF noN noD neF neN neD arP1 arB1 arM1 arU1 arF1 arR1 arL1 arT1 arA1 arS1 leN1 leD1 grN1 grD1 arH1 arLU1 arGU1 shN1 shD1 stF1 stN1 stD1 rest)) ∨ (why = 0 ∧ ∃ (plBN1 plBD1 plLN1 plLD1 : Int → Int), (∀ s, 0 ≤ s → s < plS → plBN1 s = nN ((fun p => arT1 (posP arR1 plP p)) (2 * s)) arU1 ∧ plBD1 s = nD ((fun p => arT1 (posP arR1 plP p)) (2 * s)) arU1 ∧ plLN1 s = nN ((fun p => arT1 (posP arR1 plP p)) (2 * s + 1) - (fun p => arT1 (posP arR1 plP p)) (2 * s)) arU1 ∧ plLD1 s = nD ((fun p => arT1 (posP arR1 plP p)) (2 * s + 1) - (fun p => arT1 (posP arR1 plP p)) (2 * s)) arU1) ∧ Cg false (d + 7) m_PJ_arrange [.ref 2] (MC s0 s1 handN handD gT gF alE actions alM fiF fiN fiD epN epD goH goN goD plS plP plM plA plBN plBD plLN plLD plR veW veF veP vsF vsN vsD juM juP juTN juTD juO scN scD noF noN noD neF neN neD arP arB arM arU arF arR arL arT arA arS leN leD grN grD arH arLU arGU shN shD stF stN stD rest) (.inl (some (.int (iI why)))) (MC s0 s1 handN handD gT gF alE actions alM fiF fiN fiD epN epD goH goN goD plS plP plM plA plBN1 plBD1 plLN1 plLD1 plR 1 why arF1 F1 N1 D1 juM juP juTN juTD juO scN scD noF noN noD neF neN neD arP1 arB1 arM1 arU1 arF1 arR1 arL1 arT1 arA1 arS1 leN1 leD1 grN1 grD1 arH1 arLU1 arGU1 shN1 shD1 stF1 stN1 stD1 rest))) := by
  obtain ⟨why, pt, F1, N1, D1, arP1, arF1, arU1, arT1, shN1, shD1, arLU1, arGU1, arB1, arM1, arR1, arL1, arA1, arS1, leN1, leD1, grN1, grD1, arH1, stF1, stN1, stD1, hA, p1, p2, p3, p4, p5, p6, hc⟩ := c_Ar_findFault (d := d) (s0 := s0) (s1 := s1) (rest := rest) (handN := handN) (handD := handD) (gT := gT) (gF := gF) (alE := alE) (alM := alM) (fiF := fiF) (fiN := fiN) (fiD := fiD) (epN := epN) (epD := epD) (goH := goH) (goN := goN) (goD := goD) (plS := plS) (plP := plP) (plM := plM) (plA := plA) (plBN := plBN) (plBD := plBD) (plLN := plLN) (plLD := plLD) (plR := plR) (veW := veW) (veF := veF) (veP := veP) (vsF := vsF) (vsN := vsN) (vsD := vsD) (juM := juM) (juP := juP) (juTN := juTN) (juTD := juTD) (juO := juO) (scN := scN) (scD := scD) (noF := noF) (noN := noN) (noD := noD) (neF := neF) (neN := neN) (neD := neD) (arP := arP) (arB := arB) (arM := arM) (arU := arU) (arF := arF) (arR := arR) (arL := arL) (arT := arT) (arA := arA) (arS := arS) (leN := leN) (leD := leD) (grN := grN) (grD := grD) (arH := arH) (arLU := arLU) (arGU := arGU) (shN := shN) (shD := shD) (stF := stF) (stN := stN) (stD := stD) hw hO hE he hT hF hH hgN hgD wS hPP hok hPA wF
  refine ⟨why, pt, F1, N1, D1, arP1, arF1, arU1, arT1, shN1, shD1, arLU1, arGU1, arB1, arM1, arR1, arL1, arA1, arS1, leN1, leD1, grN1, grD1, arH1, stF1, stN1, stD1, hA, p1, p2, p4, p5, ?_⟩
  obtain ⟨q1, q2, q3⟩ := p3
  by_cases h0 : why = 0
  · obtain ⟨a1, a2, a3, a4, a5⟩ := p6 h0
    obtain ⟨b1, b2, b3⟩ := q3 (by omega)
    subst a1
    have hr : ∀ k, 0 ≤ k → k < arP1 → 0 ≤ plR k ∧ plR k < 2 * plS := fun k z1 z2 => (hok k z1 z2).1
    have hinj : ∀ i j, 0 ≤ i → i < j → j < arP1 → ¬ plR i = plR j := fun i j z1 z2 z3 z => (hok j (by omega) z3).2.1 ⟨i, z1, z2, z⟩
    obtain ⟨plBN1, plBD1, plLN1, plLD1, j1, j2, ht⟩ := c_Ar_tell (d := d + 5) (R := arP1) (m := plS) (s0 := s0) (s1 := s1) (rest := rest) (handN := handN) (handD := handD) (gT := gT) (gF := gF) (alE := alE) (alM := alM) (fiF := fiF) (fiN := fiN) (fiD := fiD) (epN := epN) (epD := epD) (goH := goH) (goN := goN) (goD := goD) (plS := plS) (plP := arP1) (plM := plM) (plA := plA) (plBN := plBN) (plBD := plBD) (plLN := plLN) (plLD := plLD) (plR := plR) (veW := veW) (veF := veF) (veP := veP) (vsF := vsF) (vsN := vsN) (vsD := vsD) (juM := juM) (juP := juP) (juTN := juTN) (juTD := juTD) (juO := juO) (scN := scN) (scD := scD) (noF := noF) (noN := noN) (noD := noD) (neF := neF) (neN := neN) (neD := neD) (arB := arB1) (arM := arM1) (arU := arU1) (arF := arF1) (arR := arR1) (arL := arL1) (arT := arT1) (arA := arA1) (arS := arS1) (leN := leN1) (leD := leD1) (grN := grN1) (grD := grD1) (arH := arH1) (arLU := arLU1) (arGU := arGU1) (shN := shN1) (shD := shD1) (stF := stF1) (stN := stN1) (stD := stD1) wS (by omega) (fun k z1 z2 => by rw [a2 k z1 z2]; exact hr k z1 z2) (fun i j z1 z2 z3 => by rw [a2 i z1 (by omega), a2 j (by omega) z3]; exact hinj i j z1 z2 z3) (fun k z1 z2 z3 => by
      have y1 := hr k z1 z2
      rw [a2 k z1 z2]
      have y2 := a3 (plR k / 2) (by omega) (by omega)
      omega) a4 a5
    have hpos : ∀ p, 0 ≤ p → p < 2 * plS → 0 ≤ posP arR1 arP1 p ∧ posP arR1 arP1 p < arP1 ∧ arR1 (posP arR1 arP1 p) = p := fun p z1 z2 => posP_ok (by
      obtain ⟨j, y1, y2, y3⟩ := inj_full (n := arP1.toNat) (T := plR) (fun i w1 w2 => by have := hr i w1 (by omega); omega) (fun i j w1 w2 w3 => hinj i j w1 w2 (by omega)) p z1 (by omega)
      exact ⟨j, y1, by omega, by rw [a2 j y1 (by omega)]; exact y3⟩)
    have hst : ∀ s, 0 ≤ s → s < plS → posP arR1 arP1 (2 * s) = arS1 s := fun s z1 z2 => by
      obtain ⟨y1, y2, y3⟩ := hpos (2 * s) (by omega) (by omega)
      obtain ⟨w1, w2, w3⟩ := a3 s z1 z2
      rw [a2 _ y1 y2] at y3
      by_cases h1 : posP arR1 arP1 (2 * s) < arS1 s
      · exact absurd (by rw [y3, w3]) (hinj _ _ y1 h1 w2)
      · by_cases h2 : arS1 s < posP arR1 arP1 (2 * s)
        · exact absurd (by rw [y3, w3]) (hinj _ _ w1 h2 y2)
        · omega
    refine Or.inr ⟨h0, plBN1, plBD1, plLN1, plLD1, fun s z1 z2 => ?_, ?_⟩
    · obtain ⟨y1, y2, y3⟩ := hpos (2 * s) (by omega) (by omega)
      obtain ⟨w1, w2, w3⟩ := hpos (2 * s + 1) (by omega) (by omega)
      have e1 := (j1 _ y1 y2).1 (by omega)
      have e2 := (j1 _ w1 w2).2 (by omega)
      rw [y3, show 2 * s / 2 = s by omega] at e1
      rw [w3, show (2 * s + 1) / 2 = s by omega, ← hst s z1 z2] at e2
      exact ⟨e1.1, e1.2, e2.1, e2.2⟩
    · have hk0 : 0 ≤ arP1 ∧ arP1 < 25 := by omega
      have hwr := c_Ve_write_st (actions := actions) (d := d + 4) (k := arP1) (a := why) (b := arF1) (s0 := s0) (s1 := s1) (rest := rest) (handN := handN) (handD := handD) (gT := gT) (gF := gF) (alE := alE) (alM := alM) (fiF := fiF) (fiN := fiN) (fiD := fiD) (epN := epN) (epD := epD) (goH := goH) (goN := goN) (goD := goD) (plS := plS) (plP := arP1) (plM := plM) (plA := plA) (plBN := plBN1) (plBD := plBD1) (plLN := plLN1) (plLD := plLD1) (plR := plR) (veW := veW) (veF := veF) (veP := veP) (vsF := vsF) (vsN := vsN) (vsD := vsD) (juM := juM) (juP := juP) (juTN := juTN) (juTD := juTD) (juO := juO) (scN := scN) (scD := scD) (noF := noF) (noN := noN) (noD := noD) (neF := neF) (neN := neN) (neD := neD) (arP := arP1) (arB := arB1) (arM := arM1) (arU := arU1) (arF := arF1) (arR := arR1) (arL := arL1) (arT := arT1) (arA := arA1) (arS := arS1) (leN := leN1) (leD := leD1) (grN := grN1) (grD := grD1) (arH := arH1) (arLU := arLU1) (arGU := arGU1) (shN := shN1) (shD := shD1) (stF := stF1) (stN := stN1) (stD := stD1) hk0
      rw [b1, b2, b3] at hwr
      refine Cg.of (Nat.le_of_ble_eq_true rfl) ?_
      change Rg _ _ _ _ 0 [(0, .ref 2)] [] _ _ _
      refine Rg.step 1 F_PJ_arrange_0 rfl (fun _ => rfl) ?_
      refine Rg.getf 4 F_PJ_arrange_1 rfl rF_1_28 gC_2 rfl ?_
      refine Rg.getf 7 F_PJ_arrange_4 rfl rF_1_202 gC_19 rfl ?_
      refine Rg.step 8 F_PJ_arrange_7 rfl (fun _ => rfl) ?_
      refine Rg.step 9 F_PJ_arrange_8 rfl (fun _ => rfl) ?_
      refine Rg.getf 12 F_PJ_arrange_9 rfl rF_1_28 gC_2 rfl ?_
      refine Rg.getf 15 F_PJ_arrange_12 rfl rF_1_160 gC_19 rfl ?_
      refine Rg.mulI 16 F_PJ_arrange_15 rfl ?_
      refine Rg.icgeI 27 19 F_PJ_arrange_16 rfl rfl (by omega) (by omega) (fun _ => ?_) (fun h16 => by omega)
      refine Rg.step 28 F_PJ_arrange_27 rfl (fun _ => rfl) ?_
      refine Rg.getf 31 F_PJ_arrange_28 rfl rF_1_49 gC_2 rfl ?_
      refine Rg.step 32 F_PJ_arrange_31 rfl (fun _ => rfl) ?_
      refine Rg.getf 35 F_PJ_arrange_32 rfl rF_1_21 gC_2 rfl ?_
      refine Rg.step 36 F_PJ_arrange_35 rfl (fun _ => rfl) ?_
      refine Rg.getf 39 F_PJ_arrange_36 rfl rF_1_28 gC_2 rfl ?_
      refine Rg.call 42 F_PJ_arrange_39 rfl (one_V rM_1_208 (by decide) (by simp) rfl rfl gC_49 rfl) (Nat.le_of_ble_eq_true rfl) hc ?_
      refine Rg.step 43 F_PJ_arrange_42 rfl (fun _ => rfl) ?_
      refine Rg.step 44 F_PJ_arrange_43 rfl (fun _ => rfl) ?_
      refine Rg.ifneI 58 47 F_PJ_arrange_44 rfl rfl (by omega) (fun h44 => by omega) (fun _ => ?_)
      refine Rg.step 48 F_PJ_arrange_47 rfl (fun _ => rfl) ?_
      refine Rg.getf 51 F_PJ_arrange_48 rfl rF_1_49 gC_2 rfl ?_
      refine Rg.step 52 F_PJ_arrange_51 rfl (fun _ => rfl) ?_
      refine Rg.getf 55 F_PJ_arrange_52 rfl rF_1_28 gC_2 rfl ?_
      refine Rg.call 58 F_PJ_arrange_55 rfl (one_V rM_1_209 (by decide) (by simp) rfl rfl gC_49 rfl) (Nat.le_of_ble_eq_true rfl) ht ?_
      refine Rg.step 59 F_PJ_arrange_58 rfl (fun _ => rfl) ?_
      refine Rg.getf 62 F_PJ_arrange_59 rfl rF_1_35 gC_2 rfl ?_
      refine Rg.step 63 F_PJ_arrange_62 rfl (fun _ => rfl) ?_
      refine Rg.step 64 F_PJ_arrange_63 rfl (fun _ => rfl) ?_
      refine Rg.getf 67 F_PJ_arrange_64 rfl rF_1_49 gC_2 rfl ?_
      refine Rg.getf 70 F_PJ_arrange_67 rfl rF_1_213 gC_49 rfl ?_
      refine Rg.step 71 F_PJ_arrange_70 rfl (fun _ => rfl) ?_
      refine Rg.getf 74 F_PJ_arrange_71 rfl rF_1_49 gC_2 rfl ?_
      refine Rg.step 75 F_PJ_arrange_74 rfl (fun _ => rfl) ?_
      refine Rg.call 78 F_PJ_arrange_75 rfl (one_V rM_1_214 (by decide) (by simp) rfl rfl gC_49 rfl) (Nat.le_of_ble_eq_true rfl) (Cg.any (c_Ar_reach (by omega) (by omega) hk0)) ?_
      refine Rg.call 81 F_PJ_arrange_78 rfl (one_V rM_1_185 (by decide) (by simp) rfl rfl gC_28 rfl) (Nat.le_of_ble_eq_true rfl) hwr ?_
      refine Rg.step 82 F_PJ_arrange_81 rfl (fun _ => rfl) ?_
      exact Rg.retI F_PJ_arrange_82 rfl rfl rfl
  · refine Or.inl ⟨h0, ?_⟩
    by_cases h5 : why = 5
    · obtain ⟨b1, b2, b3⟩ := q2 h5
      have hk1 : 0 ≤ arP1 + 1 ∧ arP1 + 1 < 25 := by have := q1.2.2 h5; omega
      have hwr := c_Ve_write_st (actions := actions) (d := d + 4) (k := arP1 + 1) (a := why) (b := arF1) (s0 := s0) (s1 := s1) (rest := rest) (handN := handN) (handD := handD) (gT := gT) (gF := gF) (alE := alE) (alM := alM) (fiF := fiF) (fiN := fiN) (fiD := fiD) (epN := epN) (epD := epD) (goH := goH) (goN := goN) (goD := goD) (plS := plS) (plP := plP) (plM := plM) (plA := plA) (plBN := plBN) (plBD := plBD) (plLN := plLN) (plLD := plLD) (plR := plR) (veW := veW) (veF := veF) (veP := veP) (vsF := vsF) (vsN := vsN) (vsD := vsD) (juM := juM) (juP := juP) (juTN := juTN) (juTD := juTD) (juO := juO) (scN := scN) (scD := scD) (noF := noF) (noN := noN) (noD := noD) (neF := neF) (neN := neN) (neD := neD) (arP := arP1) (arB := arB1) (arM := arM1) (arU := arU1) (arF := arF1) (arR := arR1) (arL := arL1) (arT := arT1) (arA := arA1) (arS := arS1) (leN := leN1) (leD := leD1) (grN := grN1) (grD := grD1) (arH := arH1) (arLU := arLU1) (arGU := arGU1) (shN := shN1) (shD := shD1) (stF := stF1) (stN := stN1) (stD := stD1) hk1
      rw [b1, b2, b3] at hwr
      refine Cg.of (Nat.le_of_ble_eq_true rfl) ?_
      change Rg _ _ _ _ 0 [(0, .ref 2)] [] _ _ _
      refine Rg.step 1 F_PJ_arrange_0 rfl (fun _ => rfl) ?_
      refine Rg.getf 4 F_PJ_arrange_1 rfl rF_1_28 gC_2 rfl ?_
      refine Rg.getf 7 F_PJ_arrange_4 rfl rF_1_202 gC_19 rfl ?_
      refine Rg.step 8 F_PJ_arrange_7 rfl (fun _ => rfl) ?_
      refine Rg.step 9 F_PJ_arrange_8 rfl (fun _ => rfl) ?_
      refine Rg.getf 12 F_PJ_arrange_9 rfl rF_1_28 gC_2 rfl ?_
      refine Rg.getf 15 F_PJ_arrange_12 rfl rF_1_160 gC_19 rfl ?_
      refine Rg.mulI 16 F_PJ_arrange_15 rfl ?_
      refine Rg.icgeI 27 19 F_PJ_arrange_16 rfl rfl (by omega) (by omega) (fun _ => ?_) (fun h16 => by omega)
      refine Rg.step 28 F_PJ_arrange_27 rfl (fun _ => rfl) ?_
      refine Rg.getf 31 F_PJ_arrange_28 rfl rF_1_49 gC_2 rfl ?_
      refine Rg.step 32 F_PJ_arrange_31 rfl (fun _ => rfl) ?_
      refine Rg.getf 35 F_PJ_arrange_32 rfl rF_1_21 gC_2 rfl ?_
      refine Rg.step 36 F_PJ_arrange_35 rfl (fun _ => rfl) ?_
      refine Rg.getf 39 F_PJ_arrange_36 rfl rF_1_28 gC_2 rfl ?_
      refine Rg.call 42 F_PJ_arrange_39 rfl (one_V rM_1_208 (by decide) (by simp) rfl rfl gC_49 rfl) (Nat.le_of_ble_eq_true rfl) hc ?_
      refine Rg.step 43 F_PJ_arrange_42 rfl (fun _ => rfl) ?_
      refine Rg.step 44 F_PJ_arrange_43 rfl (fun _ => rfl) ?_
      refine Rg.ifneI 58 47 F_PJ_arrange_44 rfl rfl (by omega) (fun _ => ?_) (fun h44 => by omega)
      refine Rg.step 59 F_PJ_arrange_58 rfl (fun _ => rfl) ?_
      refine Rg.getf 62 F_PJ_arrange_59 rfl rF_1_35 gC_2 rfl ?_
      refine Rg.step 63 F_PJ_arrange_62 rfl (fun _ => rfl) ?_
      refine Rg.step 64 F_PJ_arrange_63 rfl (fun _ => rfl) ?_
      refine Rg.getf 67 F_PJ_arrange_64 rfl rF_1_49 gC_2 rfl ?_
      refine Rg.getf 70 F_PJ_arrange_67 rfl rF_1_213 gC_49 rfl ?_
      refine Rg.step 71 F_PJ_arrange_70 rfl (fun _ => rfl) ?_
      refine Rg.getf 74 F_PJ_arrange_71 rfl rF_1_49 gC_2 rfl ?_
      refine Rg.step 75 F_PJ_arrange_74 rfl (fun _ => rfl) ?_
      refine Rg.call 78 F_PJ_arrange_75 rfl (one_V rM_1_214 (by decide) (by simp) rfl rfl gC_49 rfl) (Nat.le_of_ble_eq_true rfl) (Cg.any (c_Ar_reach5 h5 hk1)) ?_
      refine Rg.call 81 F_PJ_arrange_78 rfl (one_V rM_1_185 (by decide) (by simp) rfl rfl gC_28 rfl) (Nat.le_of_ble_eq_true rfl) hwr ?_
      refine Rg.step 82 F_PJ_arrange_81 rfl (fun _ => rfl) ?_
      exact Rg.retI F_PJ_arrange_82 rfl rfl rfl
    · obtain ⟨b1, b2, b3⟩ := q3 h5
      have hk1 : 0 ≤ arP1 ∧ arP1 < 25 := by omega
      have hwr := c_Ve_write_st (actions := actions) (d := d + 4) (k := arP1) (a := why) (b := arF1) (s0 := s0) (s1 := s1) (rest := rest) (handN := handN) (handD := handD) (gT := gT) (gF := gF) (alE := alE) (alM := alM) (fiF := fiF) (fiN := fiN) (fiD := fiD) (epN := epN) (epD := epD) (goH := goH) (goN := goN) (goD := goD) (plS := plS) (plP := plP) (plM := plM) (plA := plA) (plBN := plBN) (plBD := plBD) (plLN := plLN) (plLD := plLD) (plR := plR) (veW := veW) (veF := veF) (veP := veP) (vsF := vsF) (vsN := vsN) (vsD := vsD) (juM := juM) (juP := juP) (juTN := juTN) (juTD := juTD) (juO := juO) (scN := scN) (scD := scD) (noF := noF) (noN := noN) (noD := noD) (neF := neF) (neN := neN) (neD := neD) (arP := arP1) (arB := arB1) (arM := arM1) (arU := arU1) (arF := arF1) (arR := arR1) (arL := arL1) (arT := arT1) (arA := arA1) (arS := arS1) (leN := leN1) (leD := leD1) (grN := grN1) (grD := grD1) (arH := arH1) (arLU := arLU1) (arGU := arGU1) (shN := shN1) (shD := shD1) (stF := stF1) (stN := stN1) (stD := stD1) hk1
      rw [b1, b2, b3] at hwr
      refine Cg.of (Nat.le_of_ble_eq_true rfl) ?_
      change Rg _ _ _ _ 0 [(0, .ref 2)] [] _ _ _
      refine Rg.step 1 F_PJ_arrange_0 rfl (fun _ => rfl) ?_
      refine Rg.getf 4 F_PJ_arrange_1 rfl rF_1_28 gC_2 rfl ?_
      refine Rg.getf 7 F_PJ_arrange_4 rfl rF_1_202 gC_19 rfl ?_
      refine Rg.step 8 F_PJ_arrange_7 rfl (fun _ => rfl) ?_
      refine Rg.step 9 F_PJ_arrange_8 rfl (fun _ => rfl) ?_
      refine Rg.getf 12 F_PJ_arrange_9 rfl rF_1_28 gC_2 rfl ?_
      refine Rg.getf 15 F_PJ_arrange_12 rfl rF_1_160 gC_19 rfl ?_
      refine Rg.mulI 16 F_PJ_arrange_15 rfl ?_
      refine Rg.icgeI 27 19 F_PJ_arrange_16 rfl rfl (by omega) (by omega) (fun _ => ?_) (fun h16 => by omega)
      refine Rg.step 28 F_PJ_arrange_27 rfl (fun _ => rfl) ?_
      refine Rg.getf 31 F_PJ_arrange_28 rfl rF_1_49 gC_2 rfl ?_
      refine Rg.step 32 F_PJ_arrange_31 rfl (fun _ => rfl) ?_
      refine Rg.getf 35 F_PJ_arrange_32 rfl rF_1_21 gC_2 rfl ?_
      refine Rg.step 36 F_PJ_arrange_35 rfl (fun _ => rfl) ?_
      refine Rg.getf 39 F_PJ_arrange_36 rfl rF_1_28 gC_2 rfl ?_
      refine Rg.call 42 F_PJ_arrange_39 rfl (one_V rM_1_208 (by decide) (by simp) rfl rfl gC_49 rfl) (Nat.le_of_ble_eq_true rfl) hc ?_
      refine Rg.step 43 F_PJ_arrange_42 rfl (fun _ => rfl) ?_
      refine Rg.step 44 F_PJ_arrange_43 rfl (fun _ => rfl) ?_
      refine Rg.ifneI 58 47 F_PJ_arrange_44 rfl rfl (by omega) (fun _ => ?_) (fun h44 => by omega)
      refine Rg.step 59 F_PJ_arrange_58 rfl (fun _ => rfl) ?_
      refine Rg.getf 62 F_PJ_arrange_59 rfl rF_1_35 gC_2 rfl ?_
      refine Rg.step 63 F_PJ_arrange_62 rfl (fun _ => rfl) ?_
      refine Rg.step 64 F_PJ_arrange_63 rfl (fun _ => rfl) ?_
      refine Rg.getf 67 F_PJ_arrange_64 rfl rF_1_49 gC_2 rfl ?_
      refine Rg.getf 70 F_PJ_arrange_67 rfl rF_1_213 gC_49 rfl ?_
      refine Rg.step 71 F_PJ_arrange_70 rfl (fun _ => rfl) ?_
      refine Rg.getf 74 F_PJ_arrange_71 rfl rF_1_49 gC_2 rfl ?_
      refine Rg.step 75 F_PJ_arrange_74 rfl (fun _ => rfl) ?_
      refine Rg.call 78 F_PJ_arrange_75 rfl (one_V rM_1_214 (by decide) (by simp) rfl rfl gC_49 rfl) (Nat.le_of_ble_eq_true rfl) (Cg.any (c_Ar_reach (by omega) h5 hk1)) ?_
      refine Rg.call 81 F_PJ_arrange_78 rfl (one_V rM_1_185 (by decide) (by simp) rfl rfl gC_28 rfl) (Nat.le_of_ble_eq_true rfl) hwr ?_
      refine Rg.step 82 F_PJ_arrange_81 rfl (fun _ => rfl) ?_
      exact Rg.retI F_PJ_arrange_82 rfl rfl rfl
end R80
