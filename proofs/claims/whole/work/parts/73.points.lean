/-! The class: the arranger does a point. -/
theorem gStates {k : Int} (h : 0 ≤ k ∧ k < 25) : ((List.range 25).map (fun k : Nat => Value.ref (68 + 4 * k)))[k.toNat]? = some (.ref (68 + 4 * k.toNat)) := by
  rw [List.getElem?_map, List.getElem?_range (by omega)]
  rfl
theorem interf_sym {needs needTime needHow needOf lastOf changes changeTime changeHow changeOf : Int → Int} {a t b u : Int} (h : interf needs needTime needHow needOf lastOf changes changeTime changeHow changeOf a t b u) : interf needs needTime needHow needOf lastOf changes changeTime changeHow changeOf b u a t := by
  have key : ∀ {F : Prop} {f : Int}, clash needs needTime needHow needOf lastOf changes changeTime changeHow changeOf a t b u F f → clash needs needTime needHow needOf lastOf changes changeTime changeHow changeOf b u a t F f := by
    rintro F f (h | h | ⟨h1, h2, h3⟩)
    · exact Or.inr (Or.inl h)
    · exact Or.inl h
    · refine Or.inr (Or.inr ⟨h2, h1, ?_⟩)
      rcases h3 with ⟨y1, y2⟩ | ⟨y1, y2⟩
      · exact Or.inl ⟨y1, fun z => y2 z.symm⟩
      · exact Or.inr ⟨y1, y2.symm⟩
  rcases h with ⟨f, f1, f2, f3⟩ | ⟨f, f1, f2, f3⟩
  · exact Or.inl ⟨f, f1, f2, key f3⟩
  · exact Or.inr ⟨f, f1, f2, key f3⟩
section R73
variable {s0 s1 : AC} {rest : AM} {ab : Int → Nat}
variable {alS alM plS plP veW veF veP juP arP arB arU arF : Int}
variable {handN handD fiN fiD epN epD goH goN goD plA plBN plBD plLN plLD plR vsN vsD juTN juTD juO scN scD noN noD neN neD arR arL arT arA arS leN leD grN grD arLU arGU shN shD : Int → Int}
variable {stN stD : Int → Int → Int}
variable {stF : Int → Int → Prop}
variable {gT gF fiF plM vsF juM noF neF arM arH : Int → Prop}
variable {alE : Nat}
variable {code amountN amountD momentN momentD epsilonN epsilonD actions steps rows tried triedRows unit point judged fault faultPoint outN outD : Int}
variable {firstN firstD wishes wants wantN wantD needs needTime needOf needHow needN needD changes changeTime changeOf changeHow changeN changeD lastOf lastN lastD stepAction startN startD lengthN lengthD row triedAction triedRow times numN numD oldN oldD toldN toldD pointN pointD leastN leastD greatestN greatestD events : Int → Int}
variable {firstFacts facts oldFacts toldFacts gone now : Int → Prop}
theorem stS_st {k : Int} (hk : 0 ≤ k ∧ k < 25) {F : Int → Prop} {N D : Int → Int} : stS (MC s0 s1 handN handD gT gF alE alS alM fiF fiN fiD epN epD goH goN goD plS plP plM plA plBN plBD plLN plLD plR veW veF veP vsF vsN vsD juM juP juTN juTD juO scN scD noF noN noD neF neN neD arP arB arM arU arF arR arL arT arA arS leN leD grN grD arH arLU arGU shN shD stF stN stD rest) (68 + 4 * k.toNat) (69 + 4 * k.toNat) (70 + 4 * k.toNat) (71 + 4 * k.toNat) F N D = (MC s0 s1 handN handD gT gF alE alS alM fiF fiN fiD epN epD goH goN goD plS plP plM plA plBN plBD plLN plLD plR veW veF veP vsF vsN vsD juM juP juTN juTD juO scN scD noF noN noD neF neN neD arP arB arM arU arF arR arL arT arA arS leN leD grN grD arH arLU arGU shN shD (up1 stF k F) (up1 stN k N) (up1 stD k D) rest) := by
  unfold stS
  rw [sF_st hk]
  exact sS_F hk
theorem c_Ar_begin {d : Nat}   : Cg false (d + 2) m_Arranger_beginAt [.ref 49, .ref 8] (MC s0 s1 handN handD gT gF alE actions alM fiF fiN fiD epN epD goH goN goD plS plP plM plA plBN plBD plLN plLD plR veW veF veP vsF vsN vsD juM juP juTN juTD juO scN scD noF noN noD neF neN neD arP arB arM arU arF arR arL arT arA arS leN leD grN grD arH arLU arGU shN shD stF stN stD rest) (.inl none) (MC s0 s1 handN handD gT gF alE actions alM fiF fiN fiD epN epD goH goN goD plS plP plM plA plBN plBD plLN plLD plR veW veF veP vsF vsN vsD juM juP juTN juTD juO scN scD noF noN noD neF neN neD 0 0 (fun _ => False) arU arF arR arL arT arA arS leN leD grN grD arH arLU arGU shN shD (up1 stF 0 fiF) (up1 stN 0 fiN) (up1 stD 0 fiD) rest) := by
  have h0 : (0 : Int) ≤ 0 ∧ (0 : Int) < 25 := by omega
  have hcf := c_State_copyFrom (d := d) (mem := (MC s0 s1 handN handD gT gF alE actions alM fiF fiN fiD epN epD goH goN goD plS plP plM plA plBN plBD plLN plLD plR veW veF veP vsF vsN vsD juM juP juTN juTD juO scN scD noF noN noD neF neN neD arP arB arM arU arF arR arL arT arA arS leN leD grN grD arH arLU arGU shN shD stF stN stD rest)) (gS_State h0) (gF_st h0) gC_8 gF_fi (by decide) (by decide) (by decide)
  rw [stS_st h0] at hcf
  refine Cg.of (Nat.le_of_ble_eq_true rfl) ?_
  change Rg _ _ _ _ 0 [(0, .ref 49), (1, .ref 8)] [] _ _ _
  refine Rg.step 1 F_Arranger_beginAt_0 rfl (fun _ => rfl) ?_
  refine Rg.getf 4 F_Arranger_beginAt_1 rfl rF_13_11 gC_49 rfl ?_
  refine Rg.step 5 F_Arranger_beginAt_4 rfl (fun _ => rfl) ?_
  refine Rg.aald 6 F_Arranger_beginAt_5 rfl gC_50 (ix_iI (by omega)) (gStates h0) ?_
  refine Rg.step 7 F_Arranger_beginAt_6 rfl (fun _ => rfl) ?_
  refine Rg.call 10 F_Arranger_beginAt_7 rfl (one_V rM_13_60 (by decide) (by simp) rfl rfl (gS_State h0) rfl) (Nat.le_of_ble_eq_true rfl) hcf ?_
  refine Rg.step 11 F_Arranger_beginAt_10 rfl (fun _ => rfl) ?_
  refine Rg.step 12 F_Arranger_beginAt_11 rfl (fun _ => rfl) ?_
  refine Rg.put 15 F_Arranger_beginAt_12 rfl rF_13_64 gC_49 (by decide) (Nat.le_of_ble_eq_true rfl) (Or.inl rfl) rfl sO_arP ?_
  refine Rg.step 16 F_Arranger_beginAt_15 rfl (fun _ => rfl) ?_
  refine Rg.step 17 F_Arranger_beginAt_16 rfl (fun _ => rfl) ?_
  refine Rg.put 20 F_Arranger_beginAt_17 rfl rF_13_68 gC_49 (by decide) (Nat.le_of_ble_eq_true rfl) (Or.inl rfl) rfl sO_arB ?_
  refine Rg.step 21 F_Arranger_beginAt_20 rfl (fun _ => rfl) ?_
  refine Rg.cK0 22 F_Arranger_beginAt_21 rfl ?_
  refine Rg.put 25 F_Arranger_beginAt_22 rfl rF_13_71 gC_49 (by decide) (Nat.le_of_ble_eq_true rfl) (Or.inl rfl) rfl sO_arM ?_
  exact Rg.retV F_Arranger_beginAt_25 rfl rfl
variable {sx fx u v : Nat} {F K : Int → Prop} {N D : Int → Int}
theorem aro_0 {d n0 : Nat} (hw : WT epsilonN epsilonD wishes wants wantN wantD actions needs needTime needOf needHow needN needD changes changeTime changeOf changeHow changeN changeD lastOf lastN lastD firstN firstD) (hO : ActsOK needs needTime needOf needHow needN needD changes changeTime changeOf changeHow changeN changeD lastOf lastN lastD rest alE actions ab) (hs : (MC s0 s1 handN handD gT gF alE actions alM fiF fiN fiD epN epD goH goN goD plS plP plM plA plBN plBD plLN plLD plR veW veF veP vsF vsN vsD juM juP juTN juTD juO scN scD noF noN noD neF neN neD arP arB arM arU arF arR arL arT arA arS leN leD grN grD arH arLU arGU shN shD stF stN stD rest)[sx]? = some (.inr (6, [.int (mk F), .ref fx]))) (hf : FI (MC s0 s1 handN handD gT gF alE actions alM fiF fiN fiD epN epD goH goN goD plS plP plM plA plBN plBD plLN plLD plR veW veF veP vsF vsN vsD juM juP juTN juTD juO scN scD noF noN noD neF neN neD arP arB arM arU arF arR arL arT arA arS leN leD grN grD arH arLU arGU shN shD stF stN stD rest) fx u v 8 N D) (wN : WN N D) (hKA : ∀ s, 0 ≤ s → s < 12 → K s → 0 ≤ arA s ∧ arA s < actions) (hK12 : ∀ s, 12 ≤ s → s < 24 → ¬ K s) : ∀ (n : Nat) (k : Int), k + n = 12 → 0 ≤ k → (∀ i, k ≤ i → i < 12 → ¬ (K i ∧ ¬ fit needs needTime needOf needHow needN needD F N D (arA i) 1)) → Rg true (d + 4) m_Arranger_findUnmetAllOver n0 3 [(4, .int (iI k)), (0, .ref 49), (1, .ref 6), (2, .ref sx), (3, .int (mk K))] [] (MC s0 s1 handN handD gT gF alE actions alM fiF fiN fiD epN epD goH goN goD plS plP plM plA plBN plBD plLN plLD plR veW veF veP vsF vsN vsD juM juP juTN juTD juO scN scD noF noN noD neF neN neD arP arB arM arU arF arR arL arT arA arS leN leD grN grD arH arLU arGU shN shD stF stN stD rest) (.inl (some (.int (iI (-1))))) (MC s0 s1 handN handD gT gF alE actions alM fiF fiN fiD epN epD goH goN goD plS plP plM plA plBN plBD plLN plLD plR veW veF veP vsF vsN vsD juM juP juTN juTD juO scN scD noF noN noD neF neN neD arP arB arM arU arF arR arL arT arA arS leN leD grN grD arH arLU arGU shN shD stF stN stD rest) := by
  obtain ⟨-, -, -, -, wA, -, -, -, -, -, -, -, -, -, -, -, -, -, -, -, -⟩ := id hw
  intro n
  induction n with
  | zero =>
    intro k hk hk2 hn
    refine Rg.step 5 F_Arranger_findUnmetAllOver_3 rfl (fun _ => rfl) ?_
    refine Rg.bip 7 F_Arranger_findUnmetAllOver_5 rfl rfl ?_
    refine Rg.icgeI 62 10 F_Arranger_findUnmetAllOver_7 rfl rfl (by omega) (by omega) (fun _ => ?_) (fun h7 => by omega)
    refine Rg.step 63 F_Arranger_findUnmetAllOver_62 rfl (fun _ => rfl) ?_
    exact Rg.retI F_Arranger_findUnmetAllOver_63 rfl rfl rfl
  | succ n ih =>
    intro k hk hk2 hn
    have hk3 := hn k (by omega) (by omega)
    by_cases hK : K k
    · have a1 := hKA k (by omega) (by omega) hK
      have m1 := act_m (s0 := s0) (s1 := s1) (rest := rest) (handN := handN) (handD := handD) (gT := gT) (gF := gF) (alE := alE) (alS := actions) (alM := alM) (fiF := fiF) (fiN := fiN) (fiD := fiD) (epN := epN) (epD := epD) (goH := goH) (goN := goN) (goD := goD) (plS := plS) (plP := plP) (plM := plM) (plA := plA) (plBN := plBN) (plBD := plBD) (plLN := plLN) (plLD := plLD) (plR := plR) (veW := veW) (veF := veF) (veP := veP) (vsF := vsF) (vsN := vsN) (vsD := vsD) (juM := juM) (juP := juP) (juTN := juTN) (juTD := juTD) (juO := juO) (scN := scN) (scD := scD) (noF := noF) (noN := noN) (noD := noD) (neF := neF) (neN := neN) (neD := neD) (arP := arP) (arB := arB) (arM := arM) (arU := arU) (arF := arF) (arR := arR) (arL := arL) (arT := arT) (arA := arA) (arS := arS) (leN := leN) (leD := leD) (grN := grN) (grD := grD) (arH := arH) (arLU := arLU) (arGU := arGU) (shN := shN) (shD := shD) (stF := stF) (stN := stN) (stD := stD) hO wA a1.1 a1.2
      refine Rg.step 5 F_Arranger_findUnmetAllOver_3 rfl (fun _ => rfl) ?_
      refine Rg.bip 7 F_Arranger_findUnmetAllOver_5 rfl rfl ?_
      refine Rg.icgeI 62 10 F_Arranger_findUnmetAllOver_7 rfl rfl (by omega) (by omega) (fun h7 => by omega) (fun _ => ?_)
      refine Rg.step 11 F_Arranger_findUnmetAllOver_10 rfl (fun _ => rfl) ?_
      refine Rg.step 13 F_Arranger_findUnmetAllOver_11 rfl (fun _ => rfl) ?_
      refine Rg.shrK 14 F_Arranger_findUnmetAllOver_13 rfl (by omega) ?_
      refine Rg.ifeqS 62 17 F_Arranger_findUnmetAllOver_14 rfl rfl (by omega) (fun h14 => ?_) (fun h14 => ?_)
      · refine Rg.step 63 F_Arranger_findUnmetAllOver_62 rfl (fun _ => rfl) ?_
        exact Rg.retI F_Arranger_findUnmetAllOver_63 rfl rfl rfl
      · refine Rg.step 18 F_Arranger_findUnmetAllOver_17 rfl (fun _ => rfl) ?_
        refine Rg.step 20 F_Arranger_findUnmetAllOver_18 rfl (fun _ => rfl) ?_
        refine Rg.shrK 21 F_Arranger_findUnmetAllOver_20 rfl (by omega) ?_
        refine Rg.step 22 F_Arranger_findUnmetAllOver_21 rfl (fun _ => rfl) ?_
        refine Rg.and1 23 F_Arranger_findUnmetAllOver_22 rfl ?_
        refine Rg.ifeqT 56 26 F_Arranger_findUnmetAllOver_23 rfl rfl (by omega) (fun h23 => absurd hK h23) (fun _ => ?_)
        refine Rg.step 27 F_Arranger_findUnmetAllOver_26 rfl (fun _ => rfl) ?_
        refine Rg.getf 30 F_Arranger_findUnmetAllOver_27 rfl rF_13_100 gC_6 rfl ?_
        refine Rg.step 31 F_Arranger_findUnmetAllOver_30 rfl (fun _ => rfl) ?_
        refine Rg.getf 34 F_Arranger_findUnmetAllOver_31 rfl rF_13_28 gC_49 rfl ?_
        refine Rg.step 36 F_Arranger_findUnmetAllOver_34 rfl (fun _ => rfl) ?_
        refine Rg.ild 37 F_Arranger_findUnmetAllOver_36 rfl gC_54 (by omega) (by decide) ?_
        refine Rg.call 40 F_Arranger_findUnmetAllOver_37 rfl (one_V rM_13_104 (by decide) (by simp) rfl rfl gC_7 rfl) (Nat.le_of_ble_eq_true rfl) (Cg.any (c_list_get hO wA a1.1 a1.2)) ?_
        refine Rg.cast 43 F_Arranger_findUnmetAllOver_40 rfl rC_13_110 (actO m1) ?_
        refine Rg.step 44 F_Arranger_findUnmetAllOver_43 rfl (fun _ => rfl) ?_
        refine Rg.step 45 F_Arranger_findUnmetAllOver_44 rfl (fun _ => rfl) ?_
        refine Rg.call 48 F_Arranger_findUnmetAllOver_45 rfl (one_V rM_13_115 (by decide) (by simp) rfl rfl (actO m1) rfl) (Nat.le_of_ble_eq_true rfl) (Cg.any (c_M_isMet (by have := (hO _ a1.1 a1.2).2.1; omega) hw m1 a1 hs hf wN (by omega))) ?_
        refine Rg.ifneP 56 51 F_Arranger_findUnmetAllOver_48 rfl rfl (fun _ => ?_) (fun h48 => absurd ⟨hK, h48⟩ hk3)
        refine Rg.inc 59 F_Arranger_findUnmetAllOver_56 rfl rfl (by decide) ?_
        refine Rg.step 3 F_Arranger_findUnmetAllOver_59 rfl (fun _ => rfl) ?_
        exact Rg.weak (ih (k + 1) (by omega) (by omega) (fun i z1 z2 => hn i (by omega) z2)) (by simp [lput1, lput2, Value.category, fi0, fi1, fi2, fi3] <;> first | rfl | exact ⟨rfl, rfl⟩) (by simp [lput1, lput2, Value.category, fi0, fi1, fi2, fi3] <;> first | rfl | exact ⟨rfl, rfl⟩)
    · skip
      refine Rg.step 5 F_Arranger_findUnmetAllOver_3 rfl (fun _ => rfl) ?_
      refine Rg.bip 7 F_Arranger_findUnmetAllOver_5 rfl rfl ?_
      refine Rg.icgeI 62 10 F_Arranger_findUnmetAllOver_7 rfl rfl (by omega) (by omega) (fun h7 => by omega) (fun _ => ?_)
      refine Rg.step 11 F_Arranger_findUnmetAllOver_10 rfl (fun _ => rfl) ?_
      refine Rg.step 13 F_Arranger_findUnmetAllOver_11 rfl (fun _ => rfl) ?_
      refine Rg.shrK 14 F_Arranger_findUnmetAllOver_13 rfl (by omega) ?_
      refine Rg.ifeqS 62 17 F_Arranger_findUnmetAllOver_14 rfl rfl (by omega) (fun h14 => ?_) (fun h14 => ?_)
      · refine Rg.step 63 F_Arranger_findUnmetAllOver_62 rfl (fun _ => rfl) ?_
        exact Rg.retI F_Arranger_findUnmetAllOver_63 rfl rfl rfl
      · refine Rg.step 18 F_Arranger_findUnmetAllOver_17 rfl (fun _ => rfl) ?_
        refine Rg.step 20 F_Arranger_findUnmetAllOver_18 rfl (fun _ => rfl) ?_
        refine Rg.shrK 21 F_Arranger_findUnmetAllOver_20 rfl (by omega) ?_
        refine Rg.step 22 F_Arranger_findUnmetAllOver_21 rfl (fun _ => rfl) ?_
        refine Rg.and1 23 F_Arranger_findUnmetAllOver_22 rfl ?_
        refine Rg.ifeqT 56 26 F_Arranger_findUnmetAllOver_23 rfl rfl (by omega) (fun _ => ?_) (fun h23 => absurd h23 hK)
        refine Rg.inc 59 F_Arranger_findUnmetAllOver_56 rfl rfl (by decide) ?_
        refine Rg.step 3 F_Arranger_findUnmetAllOver_59 rfl (fun _ => rfl) ?_
        exact Rg.weak (ih (k + 1) (by omega) (by omega) (fun i z1 z2 => hn i (by omega) z2)) (by simp [lput1, lput2, Value.category, fi0, fi1, fi2, fi3] <;> first | rfl | exact ⟨rfl, rfl⟩) (by simp [lput1, lput2, Value.category, fi0, fi1, fi2, fi3] <;> first | rfl | exact ⟨rfl, rfl⟩)
theorem aro_1 {d n0 : Nat} (hw : WT epsilonN epsilonD wishes wants wantN wantD actions needs needTime needOf needHow needN needD changes changeTime changeOf changeHow changeN changeD lastOf lastN lastD firstN firstD) (hO : ActsOK needs needTime needOf needHow needN needD changes changeTime changeOf changeHow changeN changeD lastOf lastN lastD rest alE actions ab) (hs : (MC s0 s1 handN handD gT gF alE actions alM fiF fiN fiD epN epD goH goN goD plS plP plM plA plBN plBD plLN plLD plR veW veF veP vsF vsN vsD juM juP juTN juTD juO scN scD noF noN noD neF neN neD arP arB arM arU arF arR arL arT arA arS leN leD grN grD arH arLU arGU shN shD stF stN stD rest)[sx]? = some (.inr (6, [.int (mk F), .ref fx]))) (hf : FI (MC s0 s1 handN handD gT gF alE actions alM fiF fiN fiD epN epD goH goN goD plS plP plM plA plBN plBD plLN plLD plR veW veF veP vsF vsN vsD juM juP juTN juTD juO scN scD noF noN noD neF neN neD arP arB arM arU arF arR arL arT arA arS leN leD grN grD arH arLU arGU shN shD stF stN stD rest) fx u v 8 N D) (wN : WN N D) (hKA : ∀ s, 0 ≤ s → s < 12 → K s → 0 ≤ arA s ∧ arA s < actions) (hK12 : ∀ s, 12 ≤ s → s < 24 → ¬ K s) {h : Int} (hh : h < 12) (hB : (K h ∧ ¬ fit needs needTime needOf needHow needN needD F N D (arA h) 1)) : ∀ (n : Nat) (k : Int), k + n = h → 0 ≤ k → (∀ i, k ≤ i → i < h → ¬ (K i ∧ ¬ fit needs needTime needOf needHow needN needD F N D (arA i) 1)) → Rg true (d + 4) m_Arranger_findUnmetAllOver n0 3 [(4, .int (iI k)), (0, .ref 49), (1, .ref 6), (2, .ref sx), (3, .int (mk K))] [] (MC s0 s1 handN handD gT gF alE actions alM fiF fiN fiD epN epD goH goN goD plS plP plM plA plBN plBD plLN plLD plR veW veF veP vsF vsN vsD juM juP juTN juTD juO scN scD noF noN noD neF neN neD arP arB arM arU arF arR arL arT arA arS leN leD grN grD arH arLU arGU shN shD stF stN stD rest) (.inl (some (.int (iI (2 * h))))) (MC s0 s1 handN handD gT gF alE actions alM fiF fiN fiD epN epD goH goN goD plS plP plM plA plBN plBD plLN plLD plR veW veF veP vsF vsN vsD juM juP juTN juTD juO scN scD noF noN noD neF neN neD arP arB arM arU arF arR arL arT arA arS leN leD grN grD arH arLU arGU shN shD stF stN stD rest) := by
  obtain ⟨-, -, -, -, wA, -, -, -, -, -, -, -, -, -, -, -, -, -, -, -, -⟩ := id hw
  intro n
  induction n with
  | zero =>
    intro k hk hk2 hn
    have ek : k = h := by omega
    subst ek
    have a1 := hKA k (by omega) (by omega) hB.1
    have m1 := act_m (s0 := s0) (s1 := s1) (rest := rest) (handN := handN) (handD := handD) (gT := gT) (gF := gF) (alE := alE) (alS := actions) (alM := alM) (fiF := fiF) (fiN := fiN) (fiD := fiD) (epN := epN) (epD := epD) (goH := goH) (goN := goN) (goD := goD) (plS := plS) (plP := plP) (plM := plM) (plA := plA) (plBN := plBN) (plBD := plBD) (plLN := plLN) (plLD := plLD) (plR := plR) (veW := veW) (veF := veF) (veP := veP) (vsF := vsF) (vsN := vsN) (vsD := vsD) (juM := juM) (juP := juP) (juTN := juTN) (juTD := juTD) (juO := juO) (scN := scN) (scD := scD) (noF := noF) (noN := noN) (noD := noD) (neF := neF) (neN := neN) (neD := neD) (arP := arP) (arB := arB) (arM := arM) (arU := arU) (arF := arF) (arR := arR) (arL := arL) (arT := arT) (arA := arA) (arS := arS) (leN := leN) (leD := leD) (grN := grN) (grD := grD) (arH := arH) (arLU := arLU) (arGU := arGU) (shN := shN) (shD := shD) (stF := stF) (stN := stN) (stD := stD) hO wA a1.1 a1.2
    refine Rg.step 5 F_Arranger_findUnmetAllOver_3 rfl (fun _ => rfl) ?_
    refine Rg.bip 7 F_Arranger_findUnmetAllOver_5 rfl rfl ?_
    refine Rg.icgeI 62 10 F_Arranger_findUnmetAllOver_7 rfl rfl (by omega) (by omega) (fun h7 => by omega) (fun _ => ?_)
    refine Rg.step 11 F_Arranger_findUnmetAllOver_10 rfl (fun _ => rfl) ?_
    refine Rg.step 13 F_Arranger_findUnmetAllOver_11 rfl (fun _ => rfl) ?_
    refine Rg.shrK 14 F_Arranger_findUnmetAllOver_13 rfl (by omega) ?_
    refine Rg.ifeqS 62 17 F_Arranger_findUnmetAllOver_14 rfl rfl (by omega) (fun h14 => absurd hB.1 (h14 k (by omega) (by omega))) (fun _ => ?_)
    refine Rg.step 18 F_Arranger_findUnmetAllOver_17 rfl (fun _ => rfl) ?_
    refine Rg.step 20 F_Arranger_findUnmetAllOver_18 rfl (fun _ => rfl) ?_
    refine Rg.shrK 21 F_Arranger_findUnmetAllOver_20 rfl (by omega) ?_
    refine Rg.step 22 F_Arranger_findUnmetAllOver_21 rfl (fun _ => rfl) ?_
    refine Rg.and1 23 F_Arranger_findUnmetAllOver_22 rfl ?_
    refine Rg.ifeqT 56 26 F_Arranger_findUnmetAllOver_23 rfl rfl (by omega) (fun h23 => absurd hB.1 h23) (fun _ => ?_)
    refine Rg.step 27 F_Arranger_findUnmetAllOver_26 rfl (fun _ => rfl) ?_
    refine Rg.getf 30 F_Arranger_findUnmetAllOver_27 rfl rF_13_100 gC_6 rfl ?_
    refine Rg.step 31 F_Arranger_findUnmetAllOver_30 rfl (fun _ => rfl) ?_
    refine Rg.getf 34 F_Arranger_findUnmetAllOver_31 rfl rF_13_28 gC_49 rfl ?_
    refine Rg.step 36 F_Arranger_findUnmetAllOver_34 rfl (fun _ => rfl) ?_
    refine Rg.ild 37 F_Arranger_findUnmetAllOver_36 rfl gC_54 (by omega) (by decide) ?_
    refine Rg.call 40 F_Arranger_findUnmetAllOver_37 rfl (one_V rM_13_104 (by decide) (by simp) rfl rfl gC_7 rfl) (Nat.le_of_ble_eq_true rfl) (Cg.any (c_list_get hO wA a1.1 a1.2)) ?_
    refine Rg.cast 43 F_Arranger_findUnmetAllOver_40 rfl rC_13_110 (actO m1) ?_
    refine Rg.step 44 F_Arranger_findUnmetAllOver_43 rfl (fun _ => rfl) ?_
    refine Rg.step 45 F_Arranger_findUnmetAllOver_44 rfl (fun _ => rfl) ?_
    refine Rg.call 48 F_Arranger_findUnmetAllOver_45 rfl (one_V rM_13_115 (by decide) (by simp) rfl rfl (actO m1) rfl) (Nat.le_of_ble_eq_true rfl) (Cg.any (c_M_isMet (by have := (hO _ a1.1 a1.2).2.1; omega) hw m1 a1 hs hf wN (by omega))) ?_
    refine Rg.ifneP 56 51 F_Arranger_findUnmetAllOver_48 rfl rfl (fun h48 => absurd h48 hB.2) (fun _ => ?_)
    refine Rg.step 52 F_Arranger_findUnmetAllOver_51 rfl (fun _ => rfl) ?_
    refine Rg.step 54 F_Arranger_findUnmetAllOver_52 rfl (fun _ => rfl) ?_
    refine Rg.mulI 55 F_Arranger_findUnmetAllOver_54 rfl ?_
    exact Rg.retI F_Arranger_findUnmetAllOver_55 rfl rfl rfl
  | succ n ih =>
    intro k hk hk2 hn
    have hk3 := hn k (by omega) (by omega)
    by_cases hK : K k
    · have a1 := hKA k (by omega) (by omega) hK
      have m1 := act_m (s0 := s0) (s1 := s1) (rest := rest) (handN := handN) (handD := handD) (gT := gT) (gF := gF) (alE := alE) (alS := actions) (alM := alM) (fiF := fiF) (fiN := fiN) (fiD := fiD) (epN := epN) (epD := epD) (goH := goH) (goN := goN) (goD := goD) (plS := plS) (plP := plP) (plM := plM) (plA := plA) (plBN := plBN) (plBD := plBD) (plLN := plLN) (plLD := plLD) (plR := plR) (veW := veW) (veF := veF) (veP := veP) (vsF := vsF) (vsN := vsN) (vsD := vsD) (juM := juM) (juP := juP) (juTN := juTN) (juTD := juTD) (juO := juO) (scN := scN) (scD := scD) (noF := noF) (noN := noN) (noD := noD) (neF := neF) (neN := neN) (neD := neD) (arP := arP) (arB := arB) (arM := arM) (arU := arU) (arF := arF) (arR := arR) (arL := arL) (arT := arT) (arA := arA) (arS := arS) (leN := leN) (leD := leD) (grN := grN) (grD := grD) (arH := arH) (arLU := arLU) (arGU := arGU) (shN := shN) (shD := shD) (stF := stF) (stN := stN) (stD := stD) hO wA a1.1 a1.2
      refine Rg.step 5 F_Arranger_findUnmetAllOver_3 rfl (fun _ => rfl) ?_
      refine Rg.bip 7 F_Arranger_findUnmetAllOver_5 rfl rfl ?_
      refine Rg.icgeI 62 10 F_Arranger_findUnmetAllOver_7 rfl rfl (by omega) (by omega) (fun h7 => by omega) (fun _ => ?_)
      refine Rg.step 11 F_Arranger_findUnmetAllOver_10 rfl (fun _ => rfl) ?_
      refine Rg.step 13 F_Arranger_findUnmetAllOver_11 rfl (fun _ => rfl) ?_
      refine Rg.shrK 14 F_Arranger_findUnmetAllOver_13 rfl (by omega) ?_
      refine Rg.ifeqS 62 17 F_Arranger_findUnmetAllOver_14 rfl rfl (by omega) (fun h14 => absurd hB.1 (h14 h (by omega) (by omega))) (fun _ => ?_)
      refine Rg.step 18 F_Arranger_findUnmetAllOver_17 rfl (fun _ => rfl) ?_
      refine Rg.step 20 F_Arranger_findUnmetAllOver_18 rfl (fun _ => rfl) ?_
      refine Rg.shrK 21 F_Arranger_findUnmetAllOver_20 rfl (by omega) ?_
      refine Rg.step 22 F_Arranger_findUnmetAllOver_21 rfl (fun _ => rfl) ?_
      refine Rg.and1 23 F_Arranger_findUnmetAllOver_22 rfl ?_
      refine Rg.ifeqT 56 26 F_Arranger_findUnmetAllOver_23 rfl rfl (by omega) (fun h23 => absurd hK h23) (fun _ => ?_)
      refine Rg.step 27 F_Arranger_findUnmetAllOver_26 rfl (fun _ => rfl) ?_
      refine Rg.getf 30 F_Arranger_findUnmetAllOver_27 rfl rF_13_100 gC_6 rfl ?_
      refine Rg.step 31 F_Arranger_findUnmetAllOver_30 rfl (fun _ => rfl) ?_
      refine Rg.getf 34 F_Arranger_findUnmetAllOver_31 rfl rF_13_28 gC_49 rfl ?_
      refine Rg.step 36 F_Arranger_findUnmetAllOver_34 rfl (fun _ => rfl) ?_
      refine Rg.ild 37 F_Arranger_findUnmetAllOver_36 rfl gC_54 (by omega) (by decide) ?_
      refine Rg.call 40 F_Arranger_findUnmetAllOver_37 rfl (one_V rM_13_104 (by decide) (by simp) rfl rfl gC_7 rfl) (Nat.le_of_ble_eq_true rfl) (Cg.any (c_list_get hO wA a1.1 a1.2)) ?_
      refine Rg.cast 43 F_Arranger_findUnmetAllOver_40 rfl rC_13_110 (actO m1) ?_
      refine Rg.step 44 F_Arranger_findUnmetAllOver_43 rfl (fun _ => rfl) ?_
      refine Rg.step 45 F_Arranger_findUnmetAllOver_44 rfl (fun _ => rfl) ?_
      refine Rg.call 48 F_Arranger_findUnmetAllOver_45 rfl (one_V rM_13_115 (by decide) (by simp) rfl rfl (actO m1) rfl) (Nat.le_of_ble_eq_true rfl) (Cg.any (c_M_isMet (by have := (hO _ a1.1 a1.2).2.1; omega) hw m1 a1 hs hf wN (by omega))) ?_
      refine Rg.ifneP 56 51 F_Arranger_findUnmetAllOver_48 rfl rfl (fun _ => ?_) (fun h48 => absurd ⟨hK, h48⟩ hk3)
      refine Rg.inc 59 F_Arranger_findUnmetAllOver_56 rfl rfl (by decide) ?_
      refine Rg.step 3 F_Arranger_findUnmetAllOver_59 rfl (fun _ => rfl) ?_
      exact Rg.weak (ih (k + 1) (by omega) (by omega) (fun i z1 z2 => hn i (by omega) z2)) (by simp [lput1, lput2, Value.category, fi0, fi1, fi2, fi3] <;> first | rfl | exact ⟨rfl, rfl⟩) (by simp [lput1, lput2, Value.category, fi0, fi1, fi2, fi3] <;> first | rfl | exact ⟨rfl, rfl⟩)
    · skip
      refine Rg.step 5 F_Arranger_findUnmetAllOver_3 rfl (fun _ => rfl) ?_
      refine Rg.bip 7 F_Arranger_findUnmetAllOver_5 rfl rfl ?_
      refine Rg.icgeI 62 10 F_Arranger_findUnmetAllOver_7 rfl rfl (by omega) (by omega) (fun h7 => by omega) (fun _ => ?_)
      refine Rg.step 11 F_Arranger_findUnmetAllOver_10 rfl (fun _ => rfl) ?_
      refine Rg.step 13 F_Arranger_findUnmetAllOver_11 rfl (fun _ => rfl) ?_
      refine Rg.shrK 14 F_Arranger_findUnmetAllOver_13 rfl (by omega) ?_
      refine Rg.ifeqS 62 17 F_Arranger_findUnmetAllOver_14 rfl rfl (by omega) (fun h14 => absurd hB.1 (h14 h (by omega) (by omega))) (fun _ => ?_)
      refine Rg.step 18 F_Arranger_findUnmetAllOver_17 rfl (fun _ => rfl) ?_
      refine Rg.step 20 F_Arranger_findUnmetAllOver_18 rfl (fun _ => rfl) ?_
      refine Rg.shrK 21 F_Arranger_findUnmetAllOver_20 rfl (by omega) ?_
      refine Rg.step 22 F_Arranger_findUnmetAllOver_21 rfl (fun _ => rfl) ?_
      refine Rg.and1 23 F_Arranger_findUnmetAllOver_22 rfl ?_
      refine Rg.ifeqT 56 26 F_Arranger_findUnmetAllOver_23 rfl rfl (by omega) (fun _ => ?_) (fun h23 => absurd h23 hK)
      refine Rg.inc 59 F_Arranger_findUnmetAllOver_56 rfl rfl (by decide) ?_
      refine Rg.step 3 F_Arranger_findUnmetAllOver_59 rfl (fun _ => rfl) ?_
      exact Rg.weak (ih (k + 1) (by omega) (by omega) (fun i z1 z2 => hn i (by omega) z2)) (by simp [lput1, lput2, Value.category, fi0, fi1, fi2, fi3] <;> first | rfl | exact ⟨rfl, rfl⟩) (by simp [lput1, lput2, Value.category, fi0, fi1, fi2, fi3] <;> first | rfl | exact ⟨rfl, rfl⟩)
theorem c_Ar_all {d : Nat} (hw : WT epsilonN epsilonD wishes wants wantN wantD actions needs needTime needOf needHow needN needD changes changeTime changeOf changeHow changeN changeD lastOf lastN lastD firstN firstD) (hO : ActsOK needs needTime needOf needHow needN needD changes changeTime changeOf changeHow changeN changeD lastOf lastN lastD rest alE actions ab) (hs : (MC s0 s1 handN handD gT gF alE actions alM fiF fiN fiD epN epD goH goN goD plS plP plM plA plBN plBD plLN plLD plR veW veF veP vsF vsN vsD juM juP juTN juTD juO scN scD noF noN noD neF neN neD arP arB arM arU arF arR arL arT arA arS leN leD grN grD arH arLU arGU shN shD stF stN stD rest)[sx]? = some (.inr (6, [.int (mk F), .ref fx]))) (hf : FI (MC s0 s1 handN handD gT gF alE actions alM fiF fiN fiD epN epD goH goN goD plS plP plM plA plBN plBD plLN plLD plR veW veF veP vsF vsN vsD juM juP juTN juTD juO scN scD noF noN noD neF neN neD arP arB arM arU arF arR arL arT arA arS leN leD grN grD arH arLU arGU shN shD stF stN stD rest) fx u v 8 N D) (wN : WN N D) (hKA : ∀ s, 0 ≤ s → s < 12 → K s → 0 ≤ arA s ∧ arA s < actions) (hK12 : ∀ s, 12 ≤ s → s < 24 → ¬ K s) : ∃ r : Int, ((r = -1 ∧ ∀ s, 0 ≤ s → s < 12 → ¬ (K s ∧ ¬ fit needs needTime needOf needHow needN needD F N D (arA s) 1)) ∨ (∃ h, 0 ≤ h ∧ h < 12 ∧ (K h ∧ ¬ fit needs needTime needOf needHow needN needD F N D (arA h) 1) ∧ (∀ s, 0 ≤ s → s < h → ¬ (K s ∧ ¬ fit needs needTime needOf needHow needN needD F N D (arA s) 1)) ∧ r = 2 * h)) ∧ Cg true (d + 4) m_Arranger_findUnmetAllOver [.ref 49, .ref 6, .ref sx, .int (mk K)] (MC s0 s1 handN handD gT gF alE actions alM fiF fiN fiD epN epD goH goN goD plS plP plM plA plBN plBD plLN plLD plR veW veF veP vsF vsN vsD juM juP juTN juTD juO scN scD noF noN noD neF neN neD arP arB arM arU arF arR arL arT arA arS leN leD grN grD arH arLU arGU shN shD stF stN stD rest) (.inl (some (.int (iI r)))) (MC s0 s1 handN handD gT gF alE actions alM fiF fiN fiD epN epD goH goN goD plS plP plM plA plBN plBD plLN plLD plR veW veF veP vsF vsN vsD juM juP juTN juTD juO scN scD noF noN noD neF neN neD arP arB arM arU arF arR arL arT arA arS leN leD grN grD arH arLU arGU shN shD stF stN stD rest) := by
  rcases fst_or (fun s => (K s ∧ ¬ fit needs needTime needOf needHow needN needD F N D (arA s) 1)) 12 (by omega) with ⟨h, z1, z2, z3, z4⟩ | hno
  · refine ⟨2 * h, Or.inr ⟨h, z1, z2, z3, z4, rfl⟩, ?_⟩
    refine Cg.of (Nat.le_of_ble_eq_true rfl) ?_
    change Rg _ _ _ _ 0 [(0, .ref 49), (1, .ref 6), (2, .ref sx), (3, .int (mk K))] [] _ _ _
    refine Rg.step 1 F_Arranger_findUnmetAllOver_0 rfl (fun _ => rfl) ?_
    refine Rg.step 3 F_Arranger_findUnmetAllOver_1 rfl (fun _ => rfl) ?_
    exact Rg.weak (aro_1 hw hO hs hf wN hKA hK12 z2 z3 h.toNat 0 (by omega) (by omega) z4) (by simp [lput1, lput2, Value.category, fi0, fi1, fi2, fi3] <;> first | rfl | exact ⟨rfl, rfl⟩) (by simp [lput1, lput2, Value.category, fi0, fi1, fi2, fi3] <;> first | rfl | exact ⟨rfl, rfl⟩)
  · refine ⟨-1, Or.inl ⟨rfl, hno⟩, ?_⟩
    refine Cg.of (Nat.le_of_ble_eq_true rfl) ?_
    change Rg _ _ _ _ 0 [(0, .ref 49), (1, .ref 6), (2, .ref sx), (3, .int (mk K))] [] _ _ _
    refine Rg.step 1 F_Arranger_findUnmetAllOver_0 rfl (fun _ => rfl) ?_
    refine Rg.step 3 F_Arranger_findUnmetAllOver_1 rfl (fun _ => rfl) ?_
    exact Rg.weak (aro_0 hw hO hs hf wN hKA hK12 12 0 (by omega) (by omega) hno) (by simp [lput1, lput2, Value.category, fi0, fi1, fi2, fi3] <;> first | rfl | exact ⟨rfl, rfl⟩) (by simp [lput1, lput2, Value.category, fi0, fi1, fi2, fi3] <;> first | rfl | exact ⟨rfl, rfl⟩)
theorem lat_loop {d n0 : Nat} (hw : WT epsilonN epsilonD wishes wants wantN wantD actions needs needTime needOf needHow needN needD changes changeTime changeOf changeHow changeN changeD lastOf lastN lastD firstN firstD) (hO : ActsOK needs needTime needOf needHow needN needD changes changeTime changeOf changeHow changeN changeD lastOf lastN lastD rest alE actions ab) {k : Int} (hk : 0 ≤ k ∧ k ≤ 24) (hR : ∀ i, 0 ≤ i → i < k → 0 ≤ arR i ∧ arR i < 24 ∧ 0 ≤ arA (arR i / 2) ∧ arA (arR i / 2) < actions) {a t : Int} (wa : 0 ≤ a ∧ a < actions) (ht : 0 ≤ t ∧ t ≤ 2) : ∀ (n : Nat) (j : Int), j + 1 = n → j < k → (∀ i, j < i → i < k → ¬ (interf needs needTime needHow needOf lastOf changes changeTime changeHow changeOf a t (arA (arR i / 2)) (tmo (arR i)))) → ∃ r, ((r = -1 ∧ ∀ j, 0 ≤ j → j < k → ¬ (interf needs needTime needHow needOf lastOf changes changeTime changeHow changeOf a t (arA (arR j / 2)) (tmo (arR j)))) ∨ (0 ≤ r ∧ r < k ∧ (interf needs needTime needHow needOf lastOf changes changeTime changeHow changeOf a t (arA (arR r / 2)) (tmo (arR r))) ∧ ∀ j, r < j → j < k → ¬ (interf needs needTime needHow needOf lastOf changes changeTime changeHow changeOf a t (arA (arR j / 2)) (tmo (arR j))))) ∧ Rg true (d + 3) m_Arranger_findLatestInterfering n0 8 [(4, .int (iI j)), (0, .ref 49), (1, .ref 6), (2, .ref (ab a)), (3, .int (iI t))] [] (MC s0 s1 handN handD gT gF alE actions alM fiF fiN fiD epN epD goH goN goD plS plP plM plA plBN plBD plLN plLD plR veW veF veP vsF vsN vsD juM juP juTN juTD juO scN scD noF noN noD neF neN neD k arB arM arU arF arR arL arT arA arS leN leD grN grD arH arLU arGU shN shD stF stN stD rest) (.inl (some (.int (iI r)))) (MC s0 s1 handN handD gT gF alE actions alM fiF fiN fiD epN epD goH goN goD plS plP plM plA plBN plBD plLN plLD plR veW veF veP vsF vsN vsD juM juP juTN juTD juO scN scD noF noN noD neF neN neD k arB arM arU arF arR arL arT arA arS leN leD grN grD arH arLU arGU shN shD stF stN stD rest) := by
  obtain ⟨-, -, -, -, wA, -, -, -, -, -, -, -, -, -, -, -, -, -, -, -, -⟩ := id hw
  have m0 := act_m (s0 := s0) (s1 := s1) (rest := rest) (handN := handN) (handD := handD) (gT := gT) (gF := gF) (alE := alE) (alS := actions) (alM := alM) (fiF := fiF) (fiN := fiN) (fiD := fiD) (epN := epN) (epD := epD) (goH := goH) (goN := goN) (goD := goD) (plS := plS) (plP := plP) (plM := plM) (plA := plA) (plBN := plBN) (plBD := plBD) (plLN := plLN) (plLD := plLD) (plR := plR) (veW := veW) (veF := veF) (veP := veP) (vsF := vsF) (vsN := vsN) (vsD := vsD) (juM := juM) (juP := juP) (juTN := juTN) (juTD := juTD) (juO := juO) (scN := scN) (scD := scD) (noF := noF) (noN := noN) (noD := noD) (neF := neF) (neN := neN) (neD := neD) (arP := k) (arB := arB) (arM := arM) (arU := arU) (arF := arF) (arR := arR) (arL := arL) (arT := arT) (arA := arA) (arS := arS) (leN := leN) (leD := leD) (grN := grN) (grD := grD) (arH := arH) (arLU := arLU) (arGU := arGU) (shN := shN) (shD := shD) (stF := stF) (stN := stN) (stD := stD) hO wA wa.1 wa.2
  intro n
  induction n with
  | zero =>
    intro j hj hjk hn
    refine ⟨-1, Or.inl ⟨rfl, fun i z1 z2 => hn i (by omega) z2⟩, ?_⟩
    refine Rg.step 10 F_Arranger_findLatestInterfering_8 rfl (fun _ => rfl) ?_
    refine Rg.ifltI 68 13 F_Arranger_findLatestInterfering_10 rfl rfl (by omega) (fun _ => ?_) (fun h10 => by omega)
    refine Rg.step 69 F_Arranger_findLatestInterfering_68 rfl (fun _ => rfl) ?_
    exact Rg.retI F_Arranger_findLatestInterfering_69 rfl rfl rfl
  | succ n ih =>
    intro j hj hjk hn
    obtain ⟨q1, q2, q3, q4⟩ := hR j (by omega) hjk
    have m1 := act_m (s0 := s0) (s1 := s1) (rest := rest) (handN := handN) (handD := handD) (gT := gT) (gF := gF) (alE := alE) (alS := actions) (alM := alM) (fiF := fiF) (fiN := fiN) (fiD := fiD) (epN := epN) (epD := epD) (goH := goH) (goN := goN) (goD := goD) (plS := plS) (plP := plP) (plM := plM) (plA := plA) (plBN := plBN) (plBD := plBD) (plLN := plLN) (plLD := plLD) (plR := plR) (veW := veW) (veF := veF) (veP := veP) (vsF := vsF) (vsN := vsN) (vsD := vsD) (juM := juM) (juP := juP) (juTN := juTN) (juTD := juTD) (juO := juO) (scN := scN) (scD := scD) (noF := noF) (noN := noN) (noD := noD) (neF := neF) (neN := neN) (neD := neD) (arP := k) (arB := arB) (arM := arM) (arU := arU) (arF := arF) (arR := arR) (arL := arL) (arT := arT) (arA := arA) (arS := arS) (leN := leN) (leD := leD) (grN := grN) (grD := grD) (arH := arH) (arLU := arLU) (arGU := arGU) (shN := shN) (shD := shD) (stF := stF) (stN := stN) (stD := stD) hO wA q3 q4
    have b1 := tmo_b (arR j)
    by_cases hI : (interf needs needTime needHow needOf lastOf changes changeTime changeHow changeOf a t (arA (arR j / 2)) (tmo (arR j)))
    · refine ⟨j, Or.inr ⟨by omega, hjk, hI, hn⟩, ?_⟩
      refine Rg.step 10 F_Arranger_findLatestInterfering_8 rfl (fun _ => rfl) ?_
      refine Rg.ifltI 68 13 F_Arranger_findLatestInterfering_10 rfl rfl (by omega) (fun h10 => by omega) (fun _ => ?_)
      refine Rg.step 14 F_Arranger_findLatestInterfering_13 rfl (fun _ => rfl) ?_
      refine Rg.getf 17 F_Arranger_findLatestInterfering_14 rfl rF_13_100 gC_6 rfl ?_
      refine Rg.step 18 F_Arranger_findLatestInterfering_17 rfl (fun _ => rfl) ?_
      refine Rg.getf 21 F_Arranger_findLatestInterfering_18 rfl rF_13_28 gC_49 rfl ?_
      refine Rg.step 22 F_Arranger_findLatestInterfering_21 rfl (fun _ => rfl) ?_
      refine Rg.getf 25 F_Arranger_findLatestInterfering_22 rfl rF_13_17 gC_49 rfl ?_
      refine Rg.step 27 F_Arranger_findLatestInterfering_25 rfl (fun _ => rfl) ?_
      refine Rg.ild 28 F_Arranger_findLatestInterfering_27 rfl gC_51 (by omega) (by decide) ?_
      refine Rg.step 29 F_Arranger_findLatestInterfering_28 rfl (fun _ => rfl) ?_
      refine Rg.divIp 30 F_Arranger_findLatestInterfering_29 rfl (by omega) (by omega) ?_
      refine Rg.ild 31 F_Arranger_findLatestInterfering_30 rfl gC_54 (by omega) (by decide) ?_
      refine Rg.call 34 F_Arranger_findLatestInterfering_31 rfl (one_V rM_13_104 (by decide) (by simp) rfl rfl gC_7 rfl) (Nat.le_of_ble_eq_true rfl) (Cg.any (c_list_get hO wA q3 q4)) ?_
      refine Rg.cast 37 F_Arranger_findLatestInterfering_34 rfl rC_13_110 (actO m1) ?_
      refine Rg.step 39 F_Arranger_findLatestInterfering_37 rfl (fun _ => rfl) ?_
      refine Rg.step 40 F_Arranger_findLatestInterfering_39 rfl (fun _ => rfl) ?_
      refine Rg.step 41 F_Arranger_findLatestInterfering_40 rfl (fun _ => rfl) ?_
      refine Rg.step 43 F_Arranger_findLatestInterfering_41 rfl (fun _ => rfl) ?_
      refine Rg.step 44 F_Arranger_findLatestInterfering_43 rfl (fun _ => rfl) ?_
      refine Rg.getf 47 F_Arranger_findLatestInterfering_44 rfl rF_13_17 gC_49 rfl ?_
      refine Rg.step 49 F_Arranger_findLatestInterfering_47 rfl (fun _ => rfl) ?_
      refine Rg.ild 50 F_Arranger_findLatestInterfering_49 rfl gC_51 (by omega) (by decide) ?_
      refine Rg.call 53 F_Arranger_findLatestInterfering_50 rfl (one_S (by decide +kernel) rM_13_96 (by decide) (by simp) rfl rfl) (Nat.le_of_ble_eq_true rfl) (Cg.any (c_PJ_timeOf (by omega))) ?_
      refine Rg.call 56 F_Arranger_findLatestInterfering_53 rfl (one_V rM_13_187 (by decide) (by simp) rfl rfl (actO m0) rfl) (Nat.le_of_ble_eq_true rfl) (Cg.any (c_M_interf hw m0 wa m1 ⟨q3, q4⟩ ht (by omega))) ?_
      refine Rg.ifeqP 62 59 F_Arranger_findLatestInterfering_56 rfl rfl (fun h56 => absurd hI h56) (fun _ => ?_)
      refine Rg.step 61 F_Arranger_findLatestInterfering_59 rfl (fun _ => rfl) ?_
      exact Rg.retI F_Arranger_findLatestInterfering_61 rfl rfl rfl
    · obtain ⟨r, i1, htt⟩ := ih (j + -1) (by omega) (by omega) (fun i z1 z2 => by
        by_cases hi : i = j
        · rw [hi]; exact hI
        · exact hn i (by omega) z2)
      refine ⟨r, i1, ?_⟩
      refine Rg.step 10 F_Arranger_findLatestInterfering_8 rfl (fun _ => rfl) ?_
      refine Rg.ifltI 68 13 F_Arranger_findLatestInterfering_10 rfl rfl (by omega) (fun h10 => by omega) (fun _ => ?_)
      refine Rg.step 14 F_Arranger_findLatestInterfering_13 rfl (fun _ => rfl) ?_
      refine Rg.getf 17 F_Arranger_findLatestInterfering_14 rfl rF_13_100 gC_6 rfl ?_
      refine Rg.step 18 F_Arranger_findLatestInterfering_17 rfl (fun _ => rfl) ?_
      refine Rg.getf 21 F_Arranger_findLatestInterfering_18 rfl rF_13_28 gC_49 rfl ?_
      refine Rg.step 22 F_Arranger_findLatestInterfering_21 rfl (fun _ => rfl) ?_
      refine Rg.getf 25 F_Arranger_findLatestInterfering_22 rfl rF_13_17 gC_49 rfl ?_
      refine Rg.step 27 F_Arranger_findLatestInterfering_25 rfl (fun _ => rfl) ?_
      refine Rg.ild 28 F_Arranger_findLatestInterfering_27 rfl gC_51 (by omega) (by decide) ?_
      refine Rg.step 29 F_Arranger_findLatestInterfering_28 rfl (fun _ => rfl) ?_
      refine Rg.divIp 30 F_Arranger_findLatestInterfering_29 rfl (by omega) (by omega) ?_
      refine Rg.ild 31 F_Arranger_findLatestInterfering_30 rfl gC_54 (by omega) (by decide) ?_
      refine Rg.call 34 F_Arranger_findLatestInterfering_31 rfl (one_V rM_13_104 (by decide) (by simp) rfl rfl gC_7 rfl) (Nat.le_of_ble_eq_true rfl) (Cg.any (c_list_get hO wA q3 q4)) ?_
      refine Rg.cast 37 F_Arranger_findLatestInterfering_34 rfl rC_13_110 (actO m1) ?_
      refine Rg.step 39 F_Arranger_findLatestInterfering_37 rfl (fun _ => rfl) ?_
      refine Rg.step 40 F_Arranger_findLatestInterfering_39 rfl (fun _ => rfl) ?_
      refine Rg.step 41 F_Arranger_findLatestInterfering_40 rfl (fun _ => rfl) ?_
      refine Rg.step 43 F_Arranger_findLatestInterfering_41 rfl (fun _ => rfl) ?_
      refine Rg.step 44 F_Arranger_findLatestInterfering_43 rfl (fun _ => rfl) ?_
      refine Rg.getf 47 F_Arranger_findLatestInterfering_44 rfl rF_13_17 gC_49 rfl ?_
      refine Rg.step 49 F_Arranger_findLatestInterfering_47 rfl (fun _ => rfl) ?_
      refine Rg.ild 50 F_Arranger_findLatestInterfering_49 rfl gC_51 (by omega) (by decide) ?_
      refine Rg.call 53 F_Arranger_findLatestInterfering_50 rfl (one_S (by decide +kernel) rM_13_96 (by decide) (by simp) rfl rfl) (Nat.le_of_ble_eq_true rfl) (Cg.any (c_PJ_timeOf (by omega))) ?_
      refine Rg.call 56 F_Arranger_findLatestInterfering_53 rfl (one_V rM_13_187 (by decide) (by simp) rfl rfl (actO m0) rfl) (Nat.le_of_ble_eq_true rfl) (Cg.any (c_M_interf hw m0 wa m1 ⟨q3, q4⟩ ht (by omega))) ?_
      refine Rg.ifeqP 62 59 F_Arranger_findLatestInterfering_56 rfl rfl (fun _ => ?_) (fun h56 => absurd h56 hI)
      refine Rg.inc 65 F_Arranger_findLatestInterfering_62 rfl rfl (by decide) ?_
      refine Rg.step 8 F_Arranger_findLatestInterfering_65 rfl (fun _ => rfl) ?_
      exact Rg.weak htt (by simp [lput1, lput2, Value.category, fi0, fi1, fi2, fi3] <;> first | rfl | exact ⟨rfl, rfl⟩) (by simp [lput1, lput2, Value.category, fi0, fi1, fi2, fi3] <;> first | rfl | exact ⟨rfl, rfl⟩)
theorem c_Ar_latest {d : Nat} (hw : WT epsilonN epsilonD wishes wants wantN wantD actions needs needTime needOf needHow needN needD changes changeTime changeOf changeHow changeN changeD lastOf lastN lastD firstN firstD) (hO : ActsOK needs needTime needOf needHow needN needD changes changeTime changeOf changeHow changeN changeD lastOf lastN lastD rest alE actions ab) {k : Int} (hk : 0 ≤ k ∧ k ≤ 24) (hR : ∀ i, 0 ≤ i → i < k → 0 ≤ arR i ∧ arR i < 24 ∧ 0 ≤ arA (arR i / 2) ∧ arA (arR i / 2) < actions) {a t : Int} (wa : 0 ≤ a ∧ a < actions) (ht : 0 ≤ t ∧ t ≤ 2) : ∃ r, ((r = -1 ∧ ∀ j, 0 ≤ j → j < k → ¬ (interf needs needTime needHow needOf lastOf changes changeTime changeHow changeOf a t (arA (arR j / 2)) (tmo (arR j)))) ∨ (0 ≤ r ∧ r < k ∧ (interf needs needTime needHow needOf lastOf changes changeTime changeHow changeOf a t (arA (arR r / 2)) (tmo (arR r))) ∧ ∀ j, r < j → j < k → ¬ (interf needs needTime needHow needOf lastOf changes changeTime changeHow changeOf a t (arA (arR j / 2)) (tmo (arR j))))) ∧ Cg true (d + 3) m_Arranger_findLatestInterfering [.ref 49, .ref 6, .ref (ab a), .int (iI t)] (MC s0 s1 handN handD gT gF alE actions alM fiF fiN fiD epN epD goH goN goD plS plP plM plA plBN plBD plLN plLD plR veW veF veP vsF vsN vsD juM juP juTN juTD juO scN scD noF noN noD neF neN neD k arB arM arU arF arR arL arT arA arS leN leD grN grD arH arLU arGU shN shD stF stN stD rest) (.inl (some (.int (iI r)))) (MC s0 s1 handN handD gT gF alE actions alM fiF fiN fiD epN epD goH goN goD plS plP plM plA plBN plBD plLN plLD plR veW veF veP vsF vsN vsD juM juP juTN juTD juO scN scD noF noN noD neF neN neD k arB arM arU arF arR arL arT arA arS leN leD grN grD arH arLU arGU shN shD stF stN stD rest) := by
  obtain ⟨r, i1, htt⟩ := lat_loop (d := d) (n0 := (MC s0 s1 handN handD gT gF alE actions alM fiF fiN fiD epN epD goH goN goD plS plP plM plA plBN plBD plLN plLD plR veW veF veP vsF vsN vsD juM juP juTN juTD juO scN scD noF noN noD neF neN neD k arB arM arU arF arR arL arT arA arS leN leD grN grD arH arLU arGU shN shD stF stN stD rest).length) (s0 := s0) (s1 := s1) (rest := rest) (handN := handN) (handD := handD) (gT := gT) (gF := gF) (alE := alE) (alM := alM) (fiF := fiF) (fiN := fiN) (fiD := fiD) (epN := epN) (epD := epD) (goH := goH) (goN := goN) (goD := goD) (plS := plS) (plP := plP) (plM := plM) (plA := plA) (plBN := plBN) (plBD := plBD) (plLN := plLN) (plLD := plLD) (plR := plR) (veW := veW) (veF := veF) (veP := veP) (vsF := vsF) (vsN := vsN) (vsD := vsD) (juM := juM) (juP := juP) (juTN := juTN) (juTD := juTD) (juO := juO) (scN := scN) (scD := scD) (noF := noF) (noN := noN) (noD := noD) (neF := neF) (neN := neN) (neD := neD) (arB := arB) (arM := arM) (arU := arU) (arF := arF) (arR := arR) (arL := arL) (arT := arT) (arA := arA) (arS := arS) (leN := leN) (leD := leD) (grN := grN) (grD := grD) (arH := arH) (arLU := arLU) (arGU := arGU) (shN := shN) (shD := shD) (stF := stF) (stN := stN) (stD := stD) hw hO hk hR wa ht k.toNat (k - 1) (by omega) (by omega) (fun i z1 z2 => by omega)
  refine ⟨r, i1, ?_⟩
  refine Cg.of (Nat.le_of_ble_eq_true rfl) ?_
  change Rg _ _ _ _ 0 [(0, .ref 49), (1, .ref 6), (2, .ref (ab a)), (3, .int (iI t))] [] _ _ _
  refine Rg.step 1 F_Arranger_findLatestInterfering_0 rfl (fun _ => rfl) ?_
  refine Rg.getf 4 F_Arranger_findLatestInterfering_1 rfl rF_13_64 gC_49 rfl ?_
  refine Rg.step 5 F_Arranger_findLatestInterfering_4 rfl (fun _ => rfl) ?_
  refine Rg.subI 6 F_Arranger_findLatestInterfering_5 rfl ?_
  refine Rg.step 8 F_Arranger_findLatestInterfering_6 rfl (fun _ => rfl) ?_
  exact Rg.weak htt (by simp [lput1, lput2, Value.category, fi0, fi1, fi2, fi3] <;> first | rfl | exact ⟨rfl, rfl⟩) (by simp [lput1, lput2, Value.category, fi0, fi1, fi2, fi3] <;> first | rfl | exact ⟨rfl, rfl⟩)
theorem c_Ar_bounds {d : Nat} (hw : WT epsilonN epsilonD wishes wants wantN wantD actions needs needTime needOf needHow needN needD changes changeTime changeOf changeHow changeN changeD lastOf lastN lastD firstN firstD) (hO : ActsOK needs needTime needOf needHow needN needD changes changeTime changeOf changeHow changeN changeD lastOf lastN lastD rest alE actions ab) (hE : epN 0 = epsilonN ∧ epD 0 = epsilonD) (he : Int.gcd epsilonN epsilonD = 1) {k : Int} (hk : 0 ≤ k ∧ k < 25) (wN : WN (stN k) (stD k)) {a s : Int} (wa : 0 ≤ a ∧ a < actions) (hs : 0 ≤ s ∧ s < 12) : ∃ gn gd, (¬ (gbD lastOf lastN lastD (stN k) (stD k) a) = 0 → gn = (gbN lastOf lastN lastD (stN k) (stD k) a) ∧ gd = (gbD lastOf lastN lastD (stN k) (stD k) a)) ∧ Cg false (d + 2) m_Arranger_writeBounds [.ref 49, .ref 6, .ref (ab a), .int (iI s)] (MC s0 s1 handN handD gT gF alE actions alM fiF fiN fiD epN epD goH goN goD plS plP plM plA plBN plBD plLN plLD plR veW veF veP vsF vsN vsD juM juP juTN juTD juO scN scD noF noN noD neF neN neD k arB arM arU arF arR arL arT arA arS leN leD grN grD arH arLU arGU shN shD stF stN stD rest) (.inl none) (MC s0 s1 handN handD gT gF alE actions alM fiF fiN fiD epN epD goH goN goD plS plP plM plA plBN plBD plLN plLD plR veW veF veP vsF vsN vsD juM juP juTN juTD juO scN scD noF noN noD neF neN neD k arB arM arU arF arR arL arT arA arS (up1 leN s (lbN lastOf lastN lastD epsilonN epsilonD (stN k) (stD k) a)) (up1 leD s (lbD lastOf lastN lastD epsilonN epsilonD (stN k) (stD k) a)) (up1 grN s gn) (up1 grD s gd) (up1 arH s (¬ (gbD lastOf lastN lastD (stN k) (stD k) a) = 0)) arLU arGU shN shD stF stN stD rest) := by
  obtain ⟨wE, -, -, -, wA, -, -, -, -, -, -, -, -, -, -, -, -, -, -, -, -⟩ := id hw
  have b0 := (hO a wa.1 wa.2).2.1
  have m1 := act_m (s0 := s0) (s1 := s1) (rest := rest) (handN := handN) (handD := handD) (gT := gT) (gF := gF) (alE := alE) (alS := actions) (alM := alM) (fiF := fiF) (fiN := fiN) (fiD := fiD) (epN := epN) (epD := epD) (goH := goH) (goN := goN) (goD := goD) (plS := plS) (plP := plP) (plM := plM) (plA := plA) (plBN := plBN) (plBD := plBD) (plLN := plLN) (plLD := plLD) (plR := plR) (veW := veW) (veF := veF) (veP := veP) (vsF := vsF) (vsN := vsN) (vsD := vsD) (juM := juM) (juP := juP) (juTN := juTN) (juTD := juTD) (juO := juO) (scN := scN) (scD := scD) (noF := noF) (noN := noN) (noD := noD) (neF := neF) (neN := neN) (neD := neD) (arP := k) (arB := arB) (arM := arM) (arU := arU) (arF := arF) (arR := arR) (arL := arL) (arT := arT) (arA := arA) (arS := arS) (leN := leN) (leD := leD) (grN := grN) (grD := grD) (arH := arH) (arLU := arLU) (arGU := arGU) (shN := shN) (shD := shD) (stF := stF) (stN := stN) (stD := stD) hO wA wa.1 wa.2
  have lc := lb_cls (lastOf := lastOf) (lastN := lastN) (lastD := lastD) (N := stN k) (D := stD k) (a := a) he wE.2.2.1 (fun z => (durc_bd hw wN (w := 0) (by omega) wa z).2.2.1)
  have up1_self : ∀ (f : Int → Int), up1 f s (f s) = f := fun f => by
    funext j
    by_cases hj : j = s
    · rw [hj, up1_eq]
    · rw [up1_ne _ _ hj]
  by_cases d0 : lastOf (2 * a + 0) = -2
  · have l1 := lc.1 d0
    have m2 := act_m (s0 := s0) (s1 := s1) (rest := rest) (handN := handN) (handD := handD) (gT := gT) (gF := gF) (alE := alE) (alS := actions) (alM := alM) (fiF := fiF) (fiN := fiN) (fiD := fiD) (epN := epN) (epD := epD) (goH := goH) (goN := goN) (goD := goD) (plS := plS) (plP := plP) (plM := plM) (plA := plA) (plBN := plBN) (plBD := plBD) (plLN := plLN) (plLD := plLD) (plR := plR) (veW := veW) (veF := veF) (veP := veP) (vsF := vsF) (vsN := vsN) (vsD := vsD) (juM := juM) (juP := juP) (juTN := juTN) (juTD := juTD) (juO := juO) (scN := scN) (scD := scD) (noF := noF) (noN := noN) (noD := noD) (neF := neF) (neN := neN) (neD := neD) (arP := k) (arB := arB) (arM := arM) (arU := arU) (arF := arF) (arR := arR) (arL := arL) (arT := arT) (arA := arA) (arS := arS) (leN := (up1 leN s epsilonN)) (leD := (up1 leD s epsilonD)) (grN := grN) (grD := grD) (arH := arH) (arLU := arLU) (arGU := arGU) (shN := shN) (shD := shD) (stF := stF) (stN := stN) (stD := stD) hO wA wa.1 wa.2
    by_cases d1 : lastOf (2 * a + 1) = -2
    · skip
      refine ⟨grN s, grD s, fun z => absurd (by unfold gbD; rw [if_pos d1]) z, ?_⟩
      rw [show (gbD lastOf lastN lastD (stN k) (stD k) a) = 0 by unfold gbD; rw [if_pos d1]]
      refine Cg.toM (show (MC s0 s1 handN handD gT gF alE actions alM fiF fiN fiD epN epD goH goN goD plS plP plM plA plBN plBD plLN plLD plR veW veF veP vsF vsN vsD juM juP juTN juTD juO scN scD noF noN noD neF neN neD k arB arM arU arF arR arL arT arA arS (up1 leN s epsilonN) (up1 leD s epsilonD) grN grD (up1 arH s False) arLU arGU shN shD stF stN stD rest) = _ from ?_) ?_
      · rw [l1.1, l1.2, show (¬ (0 : Int) = 0) = False by simp, up1_self grN, up1_self grD]
      refine Cg.of (Nat.le_of_ble_eq_true rfl) ?_
      change Rg _ _ _ _ 0 [(0, .ref 49), (1, .ref 6), (2, .ref (ab a)), (3, .int (iI s))] [] _ _ _
      refine Rg.step 1 F_Arranger_writeBounds_0 rfl (fun _ => rfl) ?_
      refine Rg.getf 4 F_Arranger_writeBounds_1 rfl rF_13_11 gC_49 rfl ?_
      refine Rg.step 5 F_Arranger_writeBounds_4 rfl (fun _ => rfl) ?_
      refine Rg.getf 8 F_Arranger_writeBounds_5 rfl rF_13_64 gC_49 rfl ?_
      refine Rg.aald 9 F_Arranger_writeBounds_8 rfl gC_50 (ix_iI (by omega)) (gStates hk) ?_
      refine Rg.step 11 F_Arranger_writeBounds_9 rfl (fun _ => rfl) ?_
      refine Rg.step 12 F_Arranger_writeBounds_11 rfl (fun _ => rfl) ?_
      refine Rg.step 13 F_Arranger_writeBounds_12 rfl (fun _ => rfl) ?_
      refine Rg.step 15 F_Arranger_writeBounds_13 rfl (fun _ => rfl) ?_
      refine Rg.step 16 F_Arranger_writeBounds_15 rfl (fun _ => rfl) ?_
      refine Rg.getf 19 F_Arranger_writeBounds_16 rfl rF_13_39 gC_49 rfl ?_
      refine Rg.step 20 F_Arranger_writeBounds_19 rfl (fun _ => rfl) ?_
      refine Rg.call 23 F_Arranger_writeBounds_20 rfl (one_V rM_13_172 (by decide) (by simp) rfl rfl (actO m1) rfl) (Nat.le_of_ble_eq_true rfl) (Cg.any (c_M_wb_no (w := 0) (by omega) hw m1 wa (by omega) d0)) ?_
      refine Rg.step 25 F_Arranger_writeBounds_23 rfl (fun _ => rfl) ?_
      refine Rg.step 27 F_Arranger_writeBounds_25 rfl (fun _ => rfl) ?_
      refine Rg.ifeqP 46 30 F_Arranger_writeBounds_27 rfl rfl (fun _ => ?_) (fun h27 => absurd h27 (fun z => z))
      refine Rg.step 47 F_Arranger_writeBounds_46 rfl (fun _ => rfl) ?_
      refine Rg.getf 50 F_Arranger_writeBounds_47 rfl rF_13_39 gC_49 rfl ?_
      refine Rg.step 51 F_Arranger_writeBounds_50 rfl (fun _ => rfl) ?_
      refine Rg.step 52 F_Arranger_writeBounds_51 rfl (fun _ => rfl) ?_
      refine Rg.getf 55 F_Arranger_writeBounds_52 rfl rF_13_176 gC_6 rfl ?_
      refine Rg.step 56 F_Arranger_writeBounds_55 rfl (fun _ => rfl) ?_
      refine Rg.call 59 F_Arranger_writeBounds_56 rfl (one_V rM_13_183 (by decide) (by simp) rfl rfl gC_56 rfl) (Nat.le_of_ble_eq_true rfl) (Cg.toM sF_le (c_FrI_copy _ gF_le gF_ep (by decide) (by omega) (by decide))) ?_
      rw [hE.1, hE.2]
      refine Rg.step 60 F_Arranger_writeBounds_59 rfl (fun _ => rfl) ?_
      refine Rg.getf 63 F_Arranger_writeBounds_60 rfl rF_13_46 gC_49 rfl ?_
      refine Rg.step 64 F_Arranger_writeBounds_63 rfl (fun _ => rfl) ?_
      refine Rg.step 65 F_Arranger_writeBounds_64 rfl (fun _ => rfl) ?_
      refine Rg.step 66 F_Arranger_writeBounds_65 rfl (fun _ => rfl) ?_
      refine Rg.step 68 F_Arranger_writeBounds_66 rfl (fun _ => rfl) ?_
      refine Rg.step 69 F_Arranger_writeBounds_68 rfl (fun _ => rfl) ?_
      refine Rg.getf 72 F_Arranger_writeBounds_69 rfl rF_13_43 gC_49 rfl ?_
      refine Rg.step 73 F_Arranger_writeBounds_72 rfl (fun _ => rfl) ?_
      refine Rg.call 76 F_Arranger_writeBounds_73 rfl (one_V rM_13_172 (by decide) (by simp) rfl rfl (actO m2) rfl) (Nat.le_of_ble_eq_true rfl) (Cg.any (c_M_wb_no (w := 1) (by omega) hw m2 wa (by omega) d1)) ?_
      refine Rg.zst 77 F_Arranger_writeBounds_76 rfl gC_62 (by decide) sC_arH (by omega) (by decide) ?_
      exact Rg.retV F_Arranger_writeBounds_77 rfl rfl
    · skip
      refine ⟨(nN (durP (stN k) lastOf lastN (2 * a + 1)) (durP (stD k) lastOf lastD (2 * a + 1))), (nD (durP (stN k) lastOf lastN (2 * a + 1)) (durP (stD k) lastOf lastD (2 * a + 1))), fun _ => ⟨rfl, by unfold gbD; rw [if_neg d1]⟩, ?_⟩
      have q1 := durc_bd hw wN (w := 1) (by omega) wa d1
      have p1 := nD_pos (n := (durP (stN k) lastOf lastN (2 * a + 1))) q1.2.2.1
      rw [show (gbD lastOf lastN lastD (stN k) (stD k) a) = (nD (durP (stN k) lastOf lastN (2 * a + 1)) (durP (stD k) lastOf lastD (2 * a + 1))) by unfold gbD; rw [if_neg d1]]
      refine Cg.toM (show (MC s0 s1 handN handD gT gF alE actions alM fiF fiN fiD epN epD goH goN goD plS plP plM plA plBN plBD plLN plLD plR veW veF veP vsF vsN vsD juM juP juTN juTD juO scN scD noF noN noD neF neN neD k arB arM arU arF arR arL arT arA arS (up1 leN s epsilonN) (up1 leD s epsilonD) (up1 grN s (nN (durP (stN k) lastOf lastN (2 * a + 1)) (durP (stD k) lastOf lastD (2 * a + 1)))) (up1 grD s (nD (durP (stN k) lastOf lastN (2 * a + 1)) (durP (stD k) lastOf lastD (2 * a + 1)))) (up1 arH s True) arLU arGU shN shD stF stN stD rest) = _ from ?_) ?_
      · rw [l1.1, l1.2, show (¬ (nD (durP (stN k) lastOf lastN (2 * a + 1)) (durP (stD k) lastOf lastD (2 * a + 1))) = 0) = True from propext ⟨fun _ => trivial, fun _ => by omega⟩]
      refine Cg.of (Nat.le_of_ble_eq_true rfl) ?_
      change Rg _ _ _ _ 0 [(0, .ref 49), (1, .ref 6), (2, .ref (ab a)), (3, .int (iI s))] [] _ _ _
      refine Rg.step 1 F_Arranger_writeBounds_0 rfl (fun _ => rfl) ?_
      refine Rg.getf 4 F_Arranger_writeBounds_1 rfl rF_13_11 gC_49 rfl ?_
      refine Rg.step 5 F_Arranger_writeBounds_4 rfl (fun _ => rfl) ?_
      refine Rg.getf 8 F_Arranger_writeBounds_5 rfl rF_13_64 gC_49 rfl ?_
      refine Rg.aald 9 F_Arranger_writeBounds_8 rfl gC_50 (ix_iI (by omega)) (gStates hk) ?_
      refine Rg.step 11 F_Arranger_writeBounds_9 rfl (fun _ => rfl) ?_
      refine Rg.step 12 F_Arranger_writeBounds_11 rfl (fun _ => rfl) ?_
      refine Rg.step 13 F_Arranger_writeBounds_12 rfl (fun _ => rfl) ?_
      refine Rg.step 15 F_Arranger_writeBounds_13 rfl (fun _ => rfl) ?_
      refine Rg.step 16 F_Arranger_writeBounds_15 rfl (fun _ => rfl) ?_
      refine Rg.getf 19 F_Arranger_writeBounds_16 rfl rF_13_39 gC_49 rfl ?_
      refine Rg.step 20 F_Arranger_writeBounds_19 rfl (fun _ => rfl) ?_
      refine Rg.call 23 F_Arranger_writeBounds_20 rfl (one_V rM_13_172 (by decide) (by simp) rfl rfl (actO m1) rfl) (Nat.le_of_ble_eq_true rfl) (Cg.any (c_M_wb_no (w := 0) (by omega) hw m1 wa (by omega) d0)) ?_
      refine Rg.step 25 F_Arranger_writeBounds_23 rfl (fun _ => rfl) ?_
      refine Rg.step 27 F_Arranger_writeBounds_25 rfl (fun _ => rfl) ?_
      refine Rg.ifeqP 46 30 F_Arranger_writeBounds_27 rfl rfl (fun _ => ?_) (fun h27 => absurd h27 (fun z => z))
      refine Rg.step 47 F_Arranger_writeBounds_46 rfl (fun _ => rfl) ?_
      refine Rg.getf 50 F_Arranger_writeBounds_47 rfl rF_13_39 gC_49 rfl ?_
      refine Rg.step 51 F_Arranger_writeBounds_50 rfl (fun _ => rfl) ?_
      refine Rg.step 52 F_Arranger_writeBounds_51 rfl (fun _ => rfl) ?_
      refine Rg.getf 55 F_Arranger_writeBounds_52 rfl rF_13_176 gC_6 rfl ?_
      refine Rg.step 56 F_Arranger_writeBounds_55 rfl (fun _ => rfl) ?_
      refine Rg.call 59 F_Arranger_writeBounds_56 rfl (one_V rM_13_183 (by decide) (by simp) rfl rfl gC_56 rfl) (Nat.le_of_ble_eq_true rfl) (Cg.toM sF_le (c_FrI_copy _ gF_le gF_ep (by decide) (by omega) (by decide))) ?_
      rw [hE.1, hE.2]
      refine Rg.step 60 F_Arranger_writeBounds_59 rfl (fun _ => rfl) ?_
      refine Rg.getf 63 F_Arranger_writeBounds_60 rfl rF_13_46 gC_49 rfl ?_
      refine Rg.step 64 F_Arranger_writeBounds_63 rfl (fun _ => rfl) ?_
      refine Rg.step 65 F_Arranger_writeBounds_64 rfl (fun _ => rfl) ?_
      refine Rg.step 66 F_Arranger_writeBounds_65 rfl (fun _ => rfl) ?_
      refine Rg.step 68 F_Arranger_writeBounds_66 rfl (fun _ => rfl) ?_
      refine Rg.step 69 F_Arranger_writeBounds_68 rfl (fun _ => rfl) ?_
      refine Rg.getf 72 F_Arranger_writeBounds_69 rfl rF_13_43 gC_49 rfl ?_
      refine Rg.step 73 F_Arranger_writeBounds_72 rfl (fun _ => rfl) ?_
      refine Rg.call 76 F_Arranger_writeBounds_73 rfl (one_V rM_13_172 (by decide) (by simp) rfl rfl (actO m2) rfl) (Nat.le_of_ble_eq_true rfl) (Cg.toM sF_gr (c_M_wb_yes (w := 1) (by omega) hw m2 wa (gS_State hk) (gF_st hk) gF_gr (by decide) (by omega) wN (by omega) (by omega) d1)) ?_
      refine Rg.zst 77 F_Arranger_writeBounds_76 rfl gC_62 (by decide) sC_arH (by omega) (by decide) ?_
      exact Rg.retV F_Arranger_writeBounds_77 rfl rfl
  · have q0 := durc_bd hw wN (w := 0) (by omega) wa d0
    have n0 := nN_bd (B := 100000000000000) q0.2.2.1 ⟨q0.1, q0.2.1⟩
    have p0 := nD_pos (n := (durP (stN k) lastOf lastN (2 * a + 0))) q0.2.2.1
    have c9 := cmpF_b (nN (durP (stN k) lastOf lastN (2 * a + 0)) (durP (stD k) lastOf lastD (2 * a + 0))) (nD (durP (stN k) lastOf lastN (2 * a + 0)) (durP (stD k) lastOf lastD (2 * a + 0))) epsilonN epsilonD
    by_cases c0 : cmpF (nN (durP (stN k) lastOf lastN (2 * a + 0)) (durP (stD k) lastOf lastD (2 * a + 0))) (nD (durP (stN k) lastOf lastN (2 * a + 0)) (durP (stD k) lastOf lastD (2 * a + 0))) epsilonN epsilonD < 0
    · have l1 := (lc.2 d0).1 c0
      have m2 := act_m (s0 := s0) (s1 := s1) (rest := rest) (handN := handN) (handD := handD) (gT := gT) (gF := gF) (alE := alE) (alS := actions) (alM := alM) (fiF := fiF) (fiN := fiN) (fiD := fiD) (epN := epN) (epD := epD) (goH := goH) (goN := goN) (goD := goD) (plS := plS) (plP := plP) (plM := plM) (plA := plA) (plBN := plBN) (plBD := plBD) (plLN := plLN) (plLD := plLD) (plR := plR) (veW := veW) (veF := veF) (veP := veP) (vsF := vsF) (vsN := vsN) (vsD := vsD) (juM := juM) (juP := juP) (juTN := juTN) (juTD := juTD) (juO := juO) (scN := scN) (scD := scD) (noF := noF) (noN := noN) (noD := noD) (neF := neF) (neN := neN) (neD := neD) (arP := k) (arB := arB) (arM := arM) (arU := arU) (arF := arF) (arR := arR) (arL := arL) (arT := arT) (arA := arA) (arS := arS) (leN := (up1 leN s epsilonN)) (leD := (up1 leD s epsilonD)) (grN := grN) (grD := grD) (arH := arH) (arLU := arLU) (arGU := arGU) (shN := shN) (shD := shD) (stF := stF) (stN := stN) (stD := stD) hO wA wa.1 wa.2
      by_cases d1 : lastOf (2 * a + 1) = -2
      · skip
        refine ⟨grN s, grD s, fun z => absurd (by unfold gbD; rw [if_pos d1]) z, ?_⟩
        rw [show (gbD lastOf lastN lastD (stN k) (stD k) a) = 0 by unfold gbD; rw [if_pos d1]]
        refine Cg.toM (show (MC s0 s1 handN handD gT gF alE actions alM fiF fiN fiD epN epD goH goN goD plS plP plM plA plBN plBD plLN plLD plR veW veF veP vsF vsN vsD juM juP juTN juTD juO scN scD noF noN noD neF neN neD k arB arM arU arF arR arL arT arA arS (up1 leN s epsilonN) (up1 leD s epsilonD) grN grD (up1 arH s False) arLU arGU shN shD stF stN stD rest) = _ from ?_) ?_
        · rw [l1.1, l1.2, show (¬ (0 : Int) = 0) = False by simp, up1_self grN, up1_self grD]
        refine Cg.of (Nat.le_of_ble_eq_true rfl) ?_
        change Rg _ _ _ _ 0 [(0, .ref 49), (1, .ref 6), (2, .ref (ab a)), (3, .int (iI s))] [] _ _ _
        refine Rg.step 1 F_Arranger_writeBounds_0 rfl (fun _ => rfl) ?_
        refine Rg.getf 4 F_Arranger_writeBounds_1 rfl rF_13_11 gC_49 rfl ?_
        refine Rg.step 5 F_Arranger_writeBounds_4 rfl (fun _ => rfl) ?_
        refine Rg.getf 8 F_Arranger_writeBounds_5 rfl rF_13_64 gC_49 rfl ?_
        refine Rg.aald 9 F_Arranger_writeBounds_8 rfl gC_50 (ix_iI (by omega)) (gStates hk) ?_
        refine Rg.step 11 F_Arranger_writeBounds_9 rfl (fun _ => rfl) ?_
        refine Rg.step 12 F_Arranger_writeBounds_11 rfl (fun _ => rfl) ?_
        refine Rg.step 13 F_Arranger_writeBounds_12 rfl (fun _ => rfl) ?_
        refine Rg.step 15 F_Arranger_writeBounds_13 rfl (fun _ => rfl) ?_
        refine Rg.step 16 F_Arranger_writeBounds_15 rfl (fun _ => rfl) ?_
        refine Rg.getf 19 F_Arranger_writeBounds_16 rfl rF_13_39 gC_49 rfl ?_
        refine Rg.step 20 F_Arranger_writeBounds_19 rfl (fun _ => rfl) ?_
        refine Rg.call 23 F_Arranger_writeBounds_20 rfl (one_V rM_13_172 (by decide) (by simp) rfl rfl (actO m1) rfl) (Nat.le_of_ble_eq_true rfl) (Cg.toM sF_le (c_M_wb_yes (w := 0) (by omega) hw m1 wa (gS_State hk) (gF_st hk) gF_le (by decide) (by omega) wN (by omega) (by omega) d0)) ?_
        refine Rg.step 25 F_Arranger_writeBounds_23 rfl (fun _ => rfl) ?_
        refine Rg.step 27 F_Arranger_writeBounds_25 rfl (fun _ => rfl) ?_
        refine Rg.ifeqP 46 30 F_Arranger_writeBounds_27 rfl rfl (fun h27 => absurd trivial h27) (fun _ => ?_)
        refine Rg.step 31 F_Arranger_writeBounds_30 rfl (fun _ => rfl) ?_
        refine Rg.getf 34 F_Arranger_writeBounds_31 rfl rF_13_39 gC_49 rfl ?_
        refine Rg.step 35 F_Arranger_writeBounds_34 rfl (fun _ => rfl) ?_
        refine Rg.step 36 F_Arranger_writeBounds_35 rfl (fun _ => rfl) ?_
        refine Rg.getf 39 F_Arranger_writeBounds_36 rfl rF_13_176 gC_6 rfl ?_
        refine Rg.step 40 F_Arranger_writeBounds_39 rfl (fun _ => rfl) ?_
        refine Rg.call 43 F_Arranger_writeBounds_40 rfl (one_V rM_13_179 (by decide) (by simp) rfl rfl gC_56 rfl) (Nat.le_of_ble_eq_true rfl) (Cg.any (c_FrI_order _ gF_le gF_ep (by omega) (by decide) (by rw [up1_eq]; omega) (by rw [up1_eq]; omega) (by omega) (by omega))) ?_
        rw [up1_eq, up1_eq, hE.1, hE.2]
        refine Rg.ifgeI 59 46 F_Arranger_writeBounds_43 rfl rfl (by omega) (fun h43 => by omega) (fun _ => ?_)
        refine Rg.step 47 F_Arranger_writeBounds_46 rfl (fun _ => rfl) ?_
        refine Rg.getf 50 F_Arranger_writeBounds_47 rfl rF_13_39 gC_49 rfl ?_
        refine Rg.step 51 F_Arranger_writeBounds_50 rfl (fun _ => rfl) ?_
        refine Rg.step 52 F_Arranger_writeBounds_51 rfl (fun _ => rfl) ?_
        refine Rg.getf 55 F_Arranger_writeBounds_52 rfl rF_13_176 gC_6 rfl ?_
        refine Rg.step 56 F_Arranger_writeBounds_55 rfl (fun _ => rfl) ?_
        refine Rg.call 59 F_Arranger_writeBounds_56 rfl (one_V rM_13_183 (by decide) (by simp) rfl rfl gC_56 rfl) (Nat.le_of_ble_eq_true rfl) (Cg.toM sF_le (c_FrI_copy _ gF_le gF_ep (by decide) (by omega) (by decide))) ?_
        rw [up1_up1, up1_up1, hE.1, hE.2]
        refine Rg.step 60 F_Arranger_writeBounds_59 rfl (fun _ => rfl) ?_
        refine Rg.getf 63 F_Arranger_writeBounds_60 rfl rF_13_46 gC_49 rfl ?_
        refine Rg.step 64 F_Arranger_writeBounds_63 rfl (fun _ => rfl) ?_
        refine Rg.step 65 F_Arranger_writeBounds_64 rfl (fun _ => rfl) ?_
        refine Rg.step 66 F_Arranger_writeBounds_65 rfl (fun _ => rfl) ?_
        refine Rg.step 68 F_Arranger_writeBounds_66 rfl (fun _ => rfl) ?_
        refine Rg.step 69 F_Arranger_writeBounds_68 rfl (fun _ => rfl) ?_
        refine Rg.getf 72 F_Arranger_writeBounds_69 rfl rF_13_43 gC_49 rfl ?_
        refine Rg.step 73 F_Arranger_writeBounds_72 rfl (fun _ => rfl) ?_
        refine Rg.call 76 F_Arranger_writeBounds_73 rfl (one_V rM_13_172 (by decide) (by simp) rfl rfl (actO m2) rfl) (Nat.le_of_ble_eq_true rfl) (Cg.any (c_M_wb_no (w := 1) (by omega) hw m2 wa (by omega) d1)) ?_
        refine Rg.zst 77 F_Arranger_writeBounds_76 rfl gC_62 (by decide) sC_arH (by omega) (by decide) ?_
        exact Rg.retV F_Arranger_writeBounds_77 rfl rfl
      · skip
        refine ⟨(nN (durP (stN k) lastOf lastN (2 * a + 1)) (durP (stD k) lastOf lastD (2 * a + 1))), (nD (durP (stN k) lastOf lastN (2 * a + 1)) (durP (stD k) lastOf lastD (2 * a + 1))), fun _ => ⟨rfl, by unfold gbD; rw [if_neg d1]⟩, ?_⟩
        have q1 := durc_bd hw wN (w := 1) (by omega) wa d1
        have p1 := nD_pos (n := (durP (stN k) lastOf lastN (2 * a + 1))) q1.2.2.1
        rw [show (gbD lastOf lastN lastD (stN k) (stD k) a) = (nD (durP (stN k) lastOf lastN (2 * a + 1)) (durP (stD k) lastOf lastD (2 * a + 1))) by unfold gbD; rw [if_neg d1]]
        refine Cg.toM (show (MC s0 s1 handN handD gT gF alE actions alM fiF fiN fiD epN epD goH goN goD plS plP plM plA plBN plBD plLN plLD plR veW veF veP vsF vsN vsD juM juP juTN juTD juO scN scD noF noN noD neF neN neD k arB arM arU arF arR arL arT arA arS (up1 leN s epsilonN) (up1 leD s epsilonD) (up1 grN s (nN (durP (stN k) lastOf lastN (2 * a + 1)) (durP (stD k) lastOf lastD (2 * a + 1)))) (up1 grD s (nD (durP (stN k) lastOf lastN (2 * a + 1)) (durP (stD k) lastOf lastD (2 * a + 1)))) (up1 arH s True) arLU arGU shN shD stF stN stD rest) = _ from ?_) ?_
        · rw [l1.1, l1.2, show (¬ (nD (durP (stN k) lastOf lastN (2 * a + 1)) (durP (stD k) lastOf lastD (2 * a + 1))) = 0) = True from propext ⟨fun _ => trivial, fun _ => by omega⟩]
        refine Cg.of (Nat.le_of_ble_eq_true rfl) ?_
        change Rg _ _ _ _ 0 [(0, .ref 49), (1, .ref 6), (2, .ref (ab a)), (3, .int (iI s))] [] _ _ _
        refine Rg.step 1 F_Arranger_writeBounds_0 rfl (fun _ => rfl) ?_
        refine Rg.getf 4 F_Arranger_writeBounds_1 rfl rF_13_11 gC_49 rfl ?_
        refine Rg.step 5 F_Arranger_writeBounds_4 rfl (fun _ => rfl) ?_
        refine Rg.getf 8 F_Arranger_writeBounds_5 rfl rF_13_64 gC_49 rfl ?_
        refine Rg.aald 9 F_Arranger_writeBounds_8 rfl gC_50 (ix_iI (by omega)) (gStates hk) ?_
        refine Rg.step 11 F_Arranger_writeBounds_9 rfl (fun _ => rfl) ?_
        refine Rg.step 12 F_Arranger_writeBounds_11 rfl (fun _ => rfl) ?_
        refine Rg.step 13 F_Arranger_writeBounds_12 rfl (fun _ => rfl) ?_
        refine Rg.step 15 F_Arranger_writeBounds_13 rfl (fun _ => rfl) ?_
        refine Rg.step 16 F_Arranger_writeBounds_15 rfl (fun _ => rfl) ?_
        refine Rg.getf 19 F_Arranger_writeBounds_16 rfl rF_13_39 gC_49 rfl ?_
        refine Rg.step 20 F_Arranger_writeBounds_19 rfl (fun _ => rfl) ?_
        refine Rg.call 23 F_Arranger_writeBounds_20 rfl (one_V rM_13_172 (by decide) (by simp) rfl rfl (actO m1) rfl) (Nat.le_of_ble_eq_true rfl) (Cg.toM sF_le (c_M_wb_yes (w := 0) (by omega) hw m1 wa (gS_State hk) (gF_st hk) gF_le (by decide) (by omega) wN (by omega) (by omega) d0)) ?_
        refine Rg.step 25 F_Arranger_writeBounds_23 rfl (fun _ => rfl) ?_
        refine Rg.step 27 F_Arranger_writeBounds_25 rfl (fun _ => rfl) ?_
        refine Rg.ifeqP 46 30 F_Arranger_writeBounds_27 rfl rfl (fun h27 => absurd trivial h27) (fun _ => ?_)
        refine Rg.step 31 F_Arranger_writeBounds_30 rfl (fun _ => rfl) ?_
        refine Rg.getf 34 F_Arranger_writeBounds_31 rfl rF_13_39 gC_49 rfl ?_
        refine Rg.step 35 F_Arranger_writeBounds_34 rfl (fun _ => rfl) ?_
        refine Rg.step 36 F_Arranger_writeBounds_35 rfl (fun _ => rfl) ?_
        refine Rg.getf 39 F_Arranger_writeBounds_36 rfl rF_13_176 gC_6 rfl ?_
        refine Rg.step 40 F_Arranger_writeBounds_39 rfl (fun _ => rfl) ?_
        refine Rg.call 43 F_Arranger_writeBounds_40 rfl (one_V rM_13_179 (by decide) (by simp) rfl rfl gC_56 rfl) (Nat.le_of_ble_eq_true rfl) (Cg.any (c_FrI_order _ gF_le gF_ep (by omega) (by decide) (by rw [up1_eq]; omega) (by rw [up1_eq]; omega) (by omega) (by omega))) ?_
        rw [up1_eq, up1_eq, hE.1, hE.2]
        refine Rg.ifgeI 59 46 F_Arranger_writeBounds_43 rfl rfl (by omega) (fun h43 => by omega) (fun _ => ?_)
        refine Rg.step 47 F_Arranger_writeBounds_46 rfl (fun _ => rfl) ?_
        refine Rg.getf 50 F_Arranger_writeBounds_47 rfl rF_13_39 gC_49 rfl ?_
        refine Rg.step 51 F_Arranger_writeBounds_50 rfl (fun _ => rfl) ?_
        refine Rg.step 52 F_Arranger_writeBounds_51 rfl (fun _ => rfl) ?_
        refine Rg.getf 55 F_Arranger_writeBounds_52 rfl rF_13_176 gC_6 rfl ?_
        refine Rg.step 56 F_Arranger_writeBounds_55 rfl (fun _ => rfl) ?_
        refine Rg.call 59 F_Arranger_writeBounds_56 rfl (one_V rM_13_183 (by decide) (by simp) rfl rfl gC_56 rfl) (Nat.le_of_ble_eq_true rfl) (Cg.toM sF_le (c_FrI_copy _ gF_le gF_ep (by decide) (by omega) (by decide))) ?_
        rw [up1_up1, up1_up1, hE.1, hE.2]
        refine Rg.step 60 F_Arranger_writeBounds_59 rfl (fun _ => rfl) ?_
        refine Rg.getf 63 F_Arranger_writeBounds_60 rfl rF_13_46 gC_49 rfl ?_
        refine Rg.step 64 F_Arranger_writeBounds_63 rfl (fun _ => rfl) ?_
        refine Rg.step 65 F_Arranger_writeBounds_64 rfl (fun _ => rfl) ?_
        refine Rg.step 66 F_Arranger_writeBounds_65 rfl (fun _ => rfl) ?_
        refine Rg.step 68 F_Arranger_writeBounds_66 rfl (fun _ => rfl) ?_
        refine Rg.step 69 F_Arranger_writeBounds_68 rfl (fun _ => rfl) ?_
        refine Rg.getf 72 F_Arranger_writeBounds_69 rfl rF_13_43 gC_49 rfl ?_
        refine Rg.step 73 F_Arranger_writeBounds_72 rfl (fun _ => rfl) ?_
        refine Rg.call 76 F_Arranger_writeBounds_73 rfl (one_V rM_13_172 (by decide) (by simp) rfl rfl (actO m2) rfl) (Nat.le_of_ble_eq_true rfl) (Cg.toM sF_gr (c_M_wb_yes (w := 1) (by omega) hw m2 wa (gS_State hk) (gF_st hk) gF_gr (by decide) (by omega) wN (by omega) (by omega) d1)) ?_
        refine Rg.zst 77 F_Arranger_writeBounds_76 rfl gC_62 (by decide) sC_arH (by omega) (by decide) ?_
        exact Rg.retV F_Arranger_writeBounds_77 rfl rfl
    · have l1 := (lc.2 d0).2 c0
      have m2 := act_m (s0 := s0) (s1 := s1) (rest := rest) (handN := handN) (handD := handD) (gT := gT) (gF := gF) (alE := alE) (alS := actions) (alM := alM) (fiF := fiF) (fiN := fiN) (fiD := fiD) (epN := epN) (epD := epD) (goH := goH) (goN := goN) (goD := goD) (plS := plS) (plP := plP) (plM := plM) (plA := plA) (plBN := plBN) (plBD := plBD) (plLN := plLN) (plLD := plLD) (plR := plR) (veW := veW) (veF := veF) (veP := veP) (vsF := vsF) (vsN := vsN) (vsD := vsD) (juM := juM) (juP := juP) (juTN := juTN) (juTD := juTD) (juO := juO) (scN := scN) (scD := scD) (noF := noF) (noN := noN) (noD := noD) (neF := neF) (neN := neN) (neD := neD) (arP := k) (arB := arB) (arM := arM) (arU := arU) (arF := arF) (arR := arR) (arL := arL) (arT := arT) (arA := arA) (arS := arS) (leN := (up1 leN s (nN (durP (stN k) lastOf lastN (2 * a + 0)) (durP (stD k) lastOf lastD (2 * a + 0))))) (leD := (up1 leD s (nD (durP (stN k) lastOf lastN (2 * a + 0)) (durP (stD k) lastOf lastD (2 * a + 0))))) (grN := grN) (grD := grD) (arH := arH) (arLU := arLU) (arGU := arGU) (shN := shN) (shD := shD) (stF := stF) (stN := stN) (stD := stD) hO wA wa.1 wa.2
      by_cases d1 : lastOf (2 * a + 1) = -2
      · skip
        refine ⟨grN s, grD s, fun z => absurd (by unfold gbD; rw [if_pos d1]) z, ?_⟩
        rw [show (gbD lastOf lastN lastD (stN k) (stD k) a) = 0 by unfold gbD; rw [if_pos d1]]
        refine Cg.toM (show (MC s0 s1 handN handD gT gF alE actions alM fiF fiN fiD epN epD goH goN goD plS plP plM plA plBN plBD plLN plLD plR veW veF veP vsF vsN vsD juM juP juTN juTD juO scN scD noF noN noD neF neN neD k arB arM arU arF arR arL arT arA arS (up1 leN s (nN (durP (stN k) lastOf lastN (2 * a + 0)) (durP (stD k) lastOf lastD (2 * a + 0)))) (up1 leD s (nD (durP (stN k) lastOf lastN (2 * a + 0)) (durP (stD k) lastOf lastD (2 * a + 0)))) grN grD (up1 arH s False) arLU arGU shN shD stF stN stD rest) = _ from ?_) ?_
        · rw [l1.1, l1.2, show (¬ (0 : Int) = 0) = False by simp, up1_self grN, up1_self grD]
        refine Cg.of (Nat.le_of_ble_eq_true rfl) ?_
        change Rg _ _ _ _ 0 [(0, .ref 49), (1, .ref 6), (2, .ref (ab a)), (3, .int (iI s))] [] _ _ _
        refine Rg.step 1 F_Arranger_writeBounds_0 rfl (fun _ => rfl) ?_
        refine Rg.getf 4 F_Arranger_writeBounds_1 rfl rF_13_11 gC_49 rfl ?_
        refine Rg.step 5 F_Arranger_writeBounds_4 rfl (fun _ => rfl) ?_
        refine Rg.getf 8 F_Arranger_writeBounds_5 rfl rF_13_64 gC_49 rfl ?_
        refine Rg.aald 9 F_Arranger_writeBounds_8 rfl gC_50 (ix_iI (by omega)) (gStates hk) ?_
        refine Rg.step 11 F_Arranger_writeBounds_9 rfl (fun _ => rfl) ?_
        refine Rg.step 12 F_Arranger_writeBounds_11 rfl (fun _ => rfl) ?_
        refine Rg.step 13 F_Arranger_writeBounds_12 rfl (fun _ => rfl) ?_
        refine Rg.step 15 F_Arranger_writeBounds_13 rfl (fun _ => rfl) ?_
        refine Rg.step 16 F_Arranger_writeBounds_15 rfl (fun _ => rfl) ?_
        refine Rg.getf 19 F_Arranger_writeBounds_16 rfl rF_13_39 gC_49 rfl ?_
        refine Rg.step 20 F_Arranger_writeBounds_19 rfl (fun _ => rfl) ?_
        refine Rg.call 23 F_Arranger_writeBounds_20 rfl (one_V rM_13_172 (by decide) (by simp) rfl rfl (actO m1) rfl) (Nat.le_of_ble_eq_true rfl) (Cg.toM sF_le (c_M_wb_yes (w := 0) (by omega) hw m1 wa (gS_State hk) (gF_st hk) gF_le (by decide) (by omega) wN (by omega) (by omega) d0)) ?_
        refine Rg.step 25 F_Arranger_writeBounds_23 rfl (fun _ => rfl) ?_
        refine Rg.step 27 F_Arranger_writeBounds_25 rfl (fun _ => rfl) ?_
        refine Rg.ifeqP 46 30 F_Arranger_writeBounds_27 rfl rfl (fun h27 => absurd trivial h27) (fun _ => ?_)
        refine Rg.step 31 F_Arranger_writeBounds_30 rfl (fun _ => rfl) ?_
        refine Rg.getf 34 F_Arranger_writeBounds_31 rfl rF_13_39 gC_49 rfl ?_
        refine Rg.step 35 F_Arranger_writeBounds_34 rfl (fun _ => rfl) ?_
        refine Rg.step 36 F_Arranger_writeBounds_35 rfl (fun _ => rfl) ?_
        refine Rg.getf 39 F_Arranger_writeBounds_36 rfl rF_13_176 gC_6 rfl ?_
        refine Rg.step 40 F_Arranger_writeBounds_39 rfl (fun _ => rfl) ?_
        refine Rg.call 43 F_Arranger_writeBounds_40 rfl (one_V rM_13_179 (by decide) (by simp) rfl rfl gC_56 rfl) (Nat.le_of_ble_eq_true rfl) (Cg.any (c_FrI_order _ gF_le gF_ep (by omega) (by decide) (by rw [up1_eq]; omega) (by rw [up1_eq]; omega) (by omega) (by omega))) ?_
        rw [up1_eq, up1_eq, hE.1, hE.2]
        refine Rg.ifgeI 59 46 F_Arranger_writeBounds_43 rfl rfl (by omega) (fun _ => ?_) (fun h43 => by omega)
        refine Rg.step 60 F_Arranger_writeBounds_59 rfl (fun _ => rfl) ?_
        refine Rg.getf 63 F_Arranger_writeBounds_60 rfl rF_13_46 gC_49 rfl ?_
        refine Rg.step 64 F_Arranger_writeBounds_63 rfl (fun _ => rfl) ?_
        refine Rg.step 65 F_Arranger_writeBounds_64 rfl (fun _ => rfl) ?_
        refine Rg.step 66 F_Arranger_writeBounds_65 rfl (fun _ => rfl) ?_
        refine Rg.step 68 F_Arranger_writeBounds_66 rfl (fun _ => rfl) ?_
        refine Rg.step 69 F_Arranger_writeBounds_68 rfl (fun _ => rfl) ?_
        refine Rg.getf 72 F_Arranger_writeBounds_69 rfl rF_13_43 gC_49 rfl ?_
        refine Rg.step 73 F_Arranger_writeBounds_72 rfl (fun _ => rfl) ?_
        refine Rg.call 76 F_Arranger_writeBounds_73 rfl (one_V rM_13_172 (by decide) (by simp) rfl rfl (actO m2) rfl) (Nat.le_of_ble_eq_true rfl) (Cg.any (c_M_wb_no (w := 1) (by omega) hw m2 wa (by omega) d1)) ?_
        refine Rg.zst 77 F_Arranger_writeBounds_76 rfl gC_62 (by decide) sC_arH (by omega) (by decide) ?_
        exact Rg.retV F_Arranger_writeBounds_77 rfl rfl
      · skip
        refine ⟨(nN (durP (stN k) lastOf lastN (2 * a + 1)) (durP (stD k) lastOf lastD (2 * a + 1))), (nD (durP (stN k) lastOf lastN (2 * a + 1)) (durP (stD k) lastOf lastD (2 * a + 1))), fun _ => ⟨rfl, by unfold gbD; rw [if_neg d1]⟩, ?_⟩
        have q1 := durc_bd hw wN (w := 1) (by omega) wa d1
        have p1 := nD_pos (n := (durP (stN k) lastOf lastN (2 * a + 1))) q1.2.2.1
        rw [show (gbD lastOf lastN lastD (stN k) (stD k) a) = (nD (durP (stN k) lastOf lastN (2 * a + 1)) (durP (stD k) lastOf lastD (2 * a + 1))) by unfold gbD; rw [if_neg d1]]
        refine Cg.toM (show (MC s0 s1 handN handD gT gF alE actions alM fiF fiN fiD epN epD goH goN goD plS plP plM plA plBN plBD plLN plLD plR veW veF veP vsF vsN vsD juM juP juTN juTD juO scN scD noF noN noD neF neN neD k arB arM arU arF arR arL arT arA arS (up1 leN s (nN (durP (stN k) lastOf lastN (2 * a + 0)) (durP (stD k) lastOf lastD (2 * a + 0)))) (up1 leD s (nD (durP (stN k) lastOf lastN (2 * a + 0)) (durP (stD k) lastOf lastD (2 * a + 0)))) (up1 grN s (nN (durP (stN k) lastOf lastN (2 * a + 1)) (durP (stD k) lastOf lastD (2 * a + 1)))) (up1 grD s (nD (durP (stN k) lastOf lastN (2 * a + 1)) (durP (stD k) lastOf lastD (2 * a + 1)))) (up1 arH s True) arLU arGU shN shD stF stN stD rest) = _ from ?_) ?_
        · rw [l1.1, l1.2, show (¬ (nD (durP (stN k) lastOf lastN (2 * a + 1)) (durP (stD k) lastOf lastD (2 * a + 1))) = 0) = True from propext ⟨fun _ => trivial, fun _ => by omega⟩]
        refine Cg.of (Nat.le_of_ble_eq_true rfl) ?_
        change Rg _ _ _ _ 0 [(0, .ref 49), (1, .ref 6), (2, .ref (ab a)), (3, .int (iI s))] [] _ _ _
        refine Rg.step 1 F_Arranger_writeBounds_0 rfl (fun _ => rfl) ?_
        refine Rg.getf 4 F_Arranger_writeBounds_1 rfl rF_13_11 gC_49 rfl ?_
        refine Rg.step 5 F_Arranger_writeBounds_4 rfl (fun _ => rfl) ?_
        refine Rg.getf 8 F_Arranger_writeBounds_5 rfl rF_13_64 gC_49 rfl ?_
        refine Rg.aald 9 F_Arranger_writeBounds_8 rfl gC_50 (ix_iI (by omega)) (gStates hk) ?_
        refine Rg.step 11 F_Arranger_writeBounds_9 rfl (fun _ => rfl) ?_
        refine Rg.step 12 F_Arranger_writeBounds_11 rfl (fun _ => rfl) ?_
        refine Rg.step 13 F_Arranger_writeBounds_12 rfl (fun _ => rfl) ?_
        refine Rg.step 15 F_Arranger_writeBounds_13 rfl (fun _ => rfl) ?_
        refine Rg.step 16 F_Arranger_writeBounds_15 rfl (fun _ => rfl) ?_
        refine Rg.getf 19 F_Arranger_writeBounds_16 rfl rF_13_39 gC_49 rfl ?_
        refine Rg.step 20 F_Arranger_writeBounds_19 rfl (fun _ => rfl) ?_
        refine Rg.call 23 F_Arranger_writeBounds_20 rfl (one_V rM_13_172 (by decide) (by simp) rfl rfl (actO m1) rfl) (Nat.le_of_ble_eq_true rfl) (Cg.toM sF_le (c_M_wb_yes (w := 0) (by omega) hw m1 wa (gS_State hk) (gF_st hk) gF_le (by decide) (by omega) wN (by omega) (by omega) d0)) ?_
        refine Rg.step 25 F_Arranger_writeBounds_23 rfl (fun _ => rfl) ?_
        refine Rg.step 27 F_Arranger_writeBounds_25 rfl (fun _ => rfl) ?_
        refine Rg.ifeqP 46 30 F_Arranger_writeBounds_27 rfl rfl (fun h27 => absurd trivial h27) (fun _ => ?_)
        refine Rg.step 31 F_Arranger_writeBounds_30 rfl (fun _ => rfl) ?_
        refine Rg.getf 34 F_Arranger_writeBounds_31 rfl rF_13_39 gC_49 rfl ?_
        refine Rg.step 35 F_Arranger_writeBounds_34 rfl (fun _ => rfl) ?_
        refine Rg.step 36 F_Arranger_writeBounds_35 rfl (fun _ => rfl) ?_
        refine Rg.getf 39 F_Arranger_writeBounds_36 rfl rF_13_176 gC_6 rfl ?_
        refine Rg.step 40 F_Arranger_writeBounds_39 rfl (fun _ => rfl) ?_
        refine Rg.call 43 F_Arranger_writeBounds_40 rfl (one_V rM_13_179 (by decide) (by simp) rfl rfl gC_56 rfl) (Nat.le_of_ble_eq_true rfl) (Cg.any (c_FrI_order _ gF_le gF_ep (by omega) (by decide) (by rw [up1_eq]; omega) (by rw [up1_eq]; omega) (by omega) (by omega))) ?_
        rw [up1_eq, up1_eq, hE.1, hE.2]
        refine Rg.ifgeI 59 46 F_Arranger_writeBounds_43 rfl rfl (by omega) (fun _ => ?_) (fun h43 => by omega)
        refine Rg.step 60 F_Arranger_writeBounds_59 rfl (fun _ => rfl) ?_
        refine Rg.getf 63 F_Arranger_writeBounds_60 rfl rF_13_46 gC_49 rfl ?_
        refine Rg.step 64 F_Arranger_writeBounds_63 rfl (fun _ => rfl) ?_
        refine Rg.step 65 F_Arranger_writeBounds_64 rfl (fun _ => rfl) ?_
        refine Rg.step 66 F_Arranger_writeBounds_65 rfl (fun _ => rfl) ?_
        refine Rg.step 68 F_Arranger_writeBounds_66 rfl (fun _ => rfl) ?_
        refine Rg.step 69 F_Arranger_writeBounds_68 rfl (fun _ => rfl) ?_
        refine Rg.getf 72 F_Arranger_writeBounds_69 rfl rF_13_43 gC_49 rfl ?_
        refine Rg.step 73 F_Arranger_writeBounds_72 rfl (fun _ => rfl) ?_
        refine Rg.call 76 F_Arranger_writeBounds_73 rfl (one_V rM_13_172 (by decide) (by simp) rfl rfl (actO m2) rfl) (Nat.le_of_ble_eq_true rfl) (Cg.toM sF_gr (c_M_wb_yes (w := 1) (by omega) hw m2 wa (gS_State hk) (gF_st hk) gF_gr (by decide) (by omega) wN (by omega) (by omega) d1)) ?_
        refine Rg.zst 77 F_Arranger_writeBounds_76 rfl gC_62 (by decide) sC_arH (by omega) (by decide) ?_
        exact Rg.retV F_Arranger_writeBounds_77 rfl rfl
end R73
