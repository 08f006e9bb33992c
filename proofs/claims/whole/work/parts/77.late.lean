/-! The class: the faults of a whole row. -/
section R77
variable {s0 s1 : AC} {rest : AM} {ab : Int → Nat}
variable {alS alM plS plP veW veF veP juP arP arB arU arF : Int}
variable {handN handD fiN fiD epN epD goH goN goD plA plBN plBD plLN plLD plR vsN vsD juTN juTD juO scN scD noN noD neN neD arR arL arT arA arS leN leD grN grD arLU arGU shN shD : Int → Int}
variable {stN stD : Int → Int → Int}
variable {stF : Int → Int → Prop}
variable {gT gF fiF plM vsF juM noF neF arM arH : Int → Prop}
variable {alE : Nat}
variable {code amountN amountD momentN momentD epsilonN epsilonD actions steps rows tried triedRows unit point judged fault faultPoint outN outD : Int}
variable {firstN firstD wishes wants wantN wantD needs needTime needOf needHow needN needD changes changeTime changeOf changeHow changeN changeD lastOf lastN lastD stepAction startN startD lengthN lengthD row triedAction triedRow times numN numD oldN oldD toldN toldD pointN pointD leastN leastD greatestN greatestD events : Int → Int}
variable {firstFacts facts oldFacts toldFacts gone now : Int → Prop}
variable {lN lD gN gD A : Int → Int} {R m u : Int} {I : Int → Int → Prop}
theorem ft_ok {d n0 : Nat} (hU : ∀ s, 0 ≤ s → s < m → leN s = lN s ∧ leD s = lD s ∧ (arH s ↔ ¬ gD s = 0) ∧ (¬ gD s = 0 → grN s = gN s ∧ grD s = gD s)) (hb : WB m lN lD gN gD) (hm : 0 ≤ m ∧ m ≤ 12) (hu : 0 < u ∧ u ≤ 100000) {o : Option Value ⊕ Nat} {mem1 : AM} (hg : Rg false (d + 2) m_Arranger_findTimes n0 86 [(0, .ref 49), (1, .ref 6)] [] (MC s0 s1 handN handD gT gF alE actions alM fiF fiN fiD epN epD goH goN goD plS plP plM plA plBN plBD plLN plLD plR veW veF veP vsF vsN vsD juM juP juTN juTD juO scN scD noF noN noD neF neN neD arP m arM u arF arR arL arT arA arS leN leD grN grD arH (mix m (fun s => lN s * (u / lD s)) arLU) (mix m (fun s => if gD s = 0 then 0 else gN s * (u / gD s)) arGU) shN shD stF stN stD rest) o mem1) : ∀ (n : Nat) (s : Int), s + n = m → 0 ≤ s → (∀ i, s ≤ i → i < m → ¬ (¬ gD i = 0 ∧ cmpF (gN i) (gD i) (lN i) (lD i) < 0)) → Rg false (d + 2) m_Arranger_findTimes n0 2 [(2, .int (iI s)), (0, .ref 49), (1, .ref 6)] [] (MC s0 s1 handN handD gT gF alE actions alM fiF fiN fiD epN epD goH goN goD plS plP plM plA plBN plBD plLN plLD plR veW veF veP vsF vsN vsD juM juP juTN juTD juO scN scD noF noN noD neF neN neD arP m arM u arF arR arL arT arA arS leN leD grN grD arH (mix s (fun s => lN s * (u / lD s)) arLU) (mix s (fun s => if gD s = 0 then 0 else gN s * (u / gD s)) arGU) shN shD stF stN stD rest) o mem1 := by
  intro n
  induction n with
  | zero =>
    intro s hs hs2 hn
    have es : s = m := by omega
    subst es
    refine Rg.step 3 F_Arranger_findTimes_2 rfl (fun _ => rfl) ?_
    refine Rg.step 4 F_Arranger_findTimes_3 rfl (fun _ => rfl) ?_
    refine Rg.getf 7 F_Arranger_findTimes_4 rfl rF_13_68 gC_49 rfl ?_
    refine Rg.icgeI 86 10 F_Arranger_findTimes_7 rfl rfl (by omega) (by omega) (fun _ => ?_) (fun h7 => by omega)
    exact Rg.weak hg (by simp [lput1, lput2, Value.category, fi0, fi1, fi2, fi3] <;> first | rfl | exact ⟨rfl, rfl⟩) (by simp [lput1, lput2, Value.category, fi0, fi1, fi2, fi3] <;> first | rfl | exact ⟨rfl, rfl⟩)
  | succ n ih =>
    intro s hs hs2 hn
    obtain ⟨b1, b2, b3⟩ := hb s hs2 (by omega)
    obtain ⟨c1, c2, c3, c4⟩ := hU s hs2 (by omega)
    have hle := c_Ar_inu_le (actions := actions) (d := d + 1) (s0 := s0) (s1 := s1) (rest := rest) (handN := handN) (handD := handD) (gT := gT) (gF := gF) (alE := alE) (alM := alM) (fiF := fiF) (fiN := fiN) (fiD := fiD) (epN := epN) (epD := epD) (goH := goH) (goN := goN) (goD := goD) (plS := plS) (plP := plP) (plM := plM) (plA := plA) (plBN := plBN) (plBD := plBD) (plLN := plLN) (plLD := plLD) (plR := plR) (veW := veW) (veF := veF) (veP := veP) (vsF := vsF) (vsN := vsN) (vsD := vsD) (juM := juM) (juP := juP) (juTN := juTN) (juTD := juTD) (juO := juO) (scN := scN) (scD := scD) (noF := noF) (noN := noN) (noD := noD) (neF := neF) (neN := neN) (neD := neD) (arP := arP) (arB := m) (arM := arM) (arF := arF) (arR := arR) (arL := arL) (arT := arT) (arA := arA) (arS := arS) (leN := leN) (leD := leD) (grN := grN) (grD := grD) (arH := arH) (arLU := (mix s (fun s => lN s * (u / lD s)) arLU)) (arGU := (mix s (fun s => if gD s = 0 then 0 else gN s * (u / gD s)) arGU)) (shN := shN) (shD := shD) (stF := stF) (stN := stN) (stD := stD) hu (i := s) (by omega) (by omega) (by omega)
    rw [c1, c2] at hle
    have hbad := hn s (by omega) (by omega)
    have hle2 := hle
    by_cases hz : gD s = 0
    · have hH : ¬ arH s := fun z => c3.mp z hz
      have eG : (fun s => if gD s = 0 then 0 else gN s * (u / gD s)) s = 0 := if_pos hz
      refine Rg.step 3 F_Arranger_findTimes_2 rfl (fun _ => rfl) ?_
      refine Rg.step 4 F_Arranger_findTimes_3 rfl (fun _ => rfl) ?_
      refine Rg.getf 7 F_Arranger_findTimes_4 rfl rF_13_68 gC_49 rfl ?_
      refine Rg.icgeI 86 10 F_Arranger_findTimes_7 rfl rfl (by omega) (by omega) (fun h7 => by omega) (fun _ => ?_)
      refine Rg.step 11 F_Arranger_findTimes_10 rfl (fun _ => rfl) ?_
      refine Rg.getf 14 F_Arranger_findTimes_11 rfl rF_13_46 gC_49 rfl ?_
      refine Rg.step 15 F_Arranger_findTimes_14 rfl (fun _ => rfl) ?_
      refine Rg.zld 16 F_Arranger_findTimes_15 rfl gC_62 (by omega) (by decide) ?_
      refine Rg.ifeqP 37 19 F_Arranger_findTimes_16 rfl rfl (fun _ => ?_) (fun h16 => absurd h16 hH)
      refine Rg.step 38 F_Arranger_findTimes_37 rfl (fun _ => rfl) ?_
      refine Rg.getf 41 F_Arranger_findTimes_38 rfl rF_13_50 gC_49 rfl ?_
      refine Rg.step 42 F_Arranger_findTimes_41 rfl (fun _ => rfl) ?_
      refine Rg.step 43 F_Arranger_findTimes_42 rfl (fun _ => rfl) ?_
      refine Rg.step 44 F_Arranger_findTimes_43 rfl (fun _ => rfl) ?_
      refine Rg.getf 47 F_Arranger_findTimes_44 rfl rF_13_39 gC_49 rfl ?_
      refine Rg.step 48 F_Arranger_findTimes_47 rfl (fun _ => rfl) ?_
      refine Rg.call 51 F_Arranger_findTimes_48 rfl (one_V rM_13_209 (by decide) (by simp) rfl rfl gC_49 rfl) (Nat.le_of_ble_eq_true rfl) (Cg.any hle) ?_
      refine Rg.lst 52 F_Arranger_findTimes_51 rfl gC_63 (by decide) sC_arLU (by omega) (by decide) ?_
      rw [mix_up (f := (fun s => lN s * (u / lD s)))]
      refine Rg.step 53 F_Arranger_findTimes_52 rfl (fun _ => rfl) ?_
      refine Rg.getf 56 F_Arranger_findTimes_53 rfl rF_13_53 gC_49 rfl ?_
      refine Rg.step 57 F_Arranger_findTimes_56 rfl (fun _ => rfl) ?_
      refine Rg.step 58 F_Arranger_findTimes_57 rfl (fun _ => rfl) ?_
      refine Rg.getf 61 F_Arranger_findTimes_58 rfl rF_13_46 gC_49 rfl ?_
      refine Rg.step 62 F_Arranger_findTimes_61 rfl (fun _ => rfl) ?_
      refine Rg.zld 63 F_Arranger_findTimes_62 rfl gC_62 (by omega) (by decide) ?_
      refine Rg.ifeqP 78 66 F_Arranger_findTimes_63 rfl rfl (fun _ => ?_) (fun h63 => absurd h63 hH)
      refine Rg.lcn (n := 0) 79 F_Arranger_findTimes_78 rfl rfl ?_
      rw [show lI 0 = lI ((fun s => if gD s = 0 then 0 else gN s * (u / gD s)) s) from congrArg lI eG.symm]
      refine Rg.lst 80 F_Arranger_findTimes_79 rfl gC_64 (by decide) sC_arGU (by omega) (by decide) ?_
      rw [mix_up (f := (fun s => if gD s = 0 then 0 else gN s * (u / gD s)))]
      refine Rg.inc 83 F_Arranger_findTimes_80 rfl rfl (by decide) ?_
      refine Rg.step 2 F_Arranger_findTimes_83 rfl (fun _ => rfl) ?_
      exact Rg.weak (ih (s + 1) (by omega) (by omega) (fun i z1 z2 => hn i (by omega) z2)) (by simp [lput1, lput2, Value.category, fi0, fi1, fi2, fi3] <;> first | rfl | exact ⟨rfl, rfl⟩) (by simp [lput1, lput2, Value.category, fi0, fi1, fi2, fi3] <;> first | rfl | exact ⟨rfl, rfl⟩)
    · have hH : arH s := c3.mpr hz
      have b4 := b3 hz
      obtain ⟨c5, c6⟩ := c4 hz
      have hc0 := cmpF_b (gN s) (gD s) (lN s) (lD s)
      have hcc : ¬ cmpF (gN s) (gD s) (lN s) (lD s) < 0 := fun z => hbad ⟨hz, z⟩
      rw [← c1, ← c2, ← c5, ← c6] at hcc hc0
      have hge := c_Ar_inu_gr (actions := actions) (d := d + 1) (s0 := s0) (s1 := s1) (rest := rest) (handN := handN) (handD := handD) (gT := gT) (gF := gF) (alE := alE) (alM := alM) (fiF := fiF) (fiN := fiN) (fiD := fiD) (epN := epN) (epD := epD) (goH := goH) (goN := goN) (goD := goD) (plS := plS) (plP := plP) (plM := plM) (plA := plA) (plBN := plBN) (plBD := plBD) (plLN := plLN) (plLD := plLD) (plR := plR) (veW := veW) (veF := veF) (veP := veP) (vsF := vsF) (vsN := vsN) (vsD := vsD) (juM := juM) (juP := juP) (juTN := juTN) (juTD := juTD) (juO := juO) (scN := scN) (scD := scD) (noF := noF) (noN := noN) (noD := noD) (neF := neF) (neN := neN) (neD := neD) (arP := arP) (arB := m) (arM := arM) (arF := arF) (arR := arR) (arL := arL) (arT := arT) (arA := arA) (arS := arS) (leN := leN) (leD := leD) (grN := grN) (grD := grD) (arH := arH) (arLU := (mix (s + 1) (fun s => lN s * (u / lD s)) arLU)) (arGU := (mix s (fun s => if gD s = 0 then 0 else gN s * (u / gD s)) arGU)) (shN := shN) (shD := shD) (stF := stF) (stN := stN) (stD := stD) hu (i := s) (by omega) (by omega) (by omega)
      rw [c5, c6] at hge
      have eG : (fun s => if gD s = 0 then 0 else gN s * (u / gD s)) s = gN s * (u / gD s) := if_neg hz
      refine Rg.step 3 F_Arranger_findTimes_2 rfl (fun _ => rfl) ?_
      refine Rg.step 4 F_Arranger_findTimes_3 rfl (fun _ => rfl) ?_
      refine Rg.getf 7 F_Arranger_findTimes_4 rfl rF_13_68 gC_49 rfl ?_
      refine Rg.icgeI 86 10 F_Arranger_findTimes_7 rfl rfl (by omega) (by omega) (fun h7 => by omega) (fun _ => ?_)
      refine Rg.step 11 F_Arranger_findTimes_10 rfl (fun _ => rfl) ?_
      refine Rg.getf 14 F_Arranger_findTimes_11 rfl rF_13_46 gC_49 rfl ?_
      refine Rg.step 15 F_Arranger_findTimes_14 rfl (fun _ => rfl) ?_
      refine Rg.zld 16 F_Arranger_findTimes_15 rfl gC_62 (by omega) (by decide) ?_
      refine Rg.ifeqP 37 19 F_Arranger_findTimes_16 rfl rfl (fun h16 => absurd hH h16) (fun _ => ?_)
      refine Rg.step 20 F_Arranger_findTimes_19 rfl (fun _ => rfl) ?_
      refine Rg.getf 23 F_Arranger_findTimes_20 rfl rF_13_43 gC_49 rfl ?_
      refine Rg.step 24 F_Arranger_findTimes_23 rfl (fun _ => rfl) ?_
      refine Rg.step 25 F_Arranger_findTimes_24 rfl (fun _ => rfl) ?_
      refine Rg.getf 28 F_Arranger_findTimes_25 rfl rF_13_39 gC_49 rfl ?_
      refine Rg.step 29 F_Arranger_findTimes_28 rfl (fun _ => rfl) ?_
      refine Rg.call 32 F_Arranger_findTimes_29 rfl (one_V rM_13_179 (by decide) (by simp) rfl rfl gC_59 rfl) (Nat.le_of_ble_eq_true rfl) (Cg.any (c_FrI_order _ gF_gr gF_le (by omega) (by omega) (by omega) (by omega) (by omega) (by omega))) ?_
      refine Rg.ifgeI 37 35 F_Arranger_findTimes_32 rfl rfl (by omega) (fun _ => ?_) (fun h32 => by omega)
      refine Rg.step 38 F_Arranger_findTimes_37 rfl (fun _ => rfl) ?_
      refine Rg.getf 41 F_Arranger_findTimes_38 rfl rF_13_50 gC_49 rfl ?_
      refine Rg.step 42 F_Arranger_findTimes_41 rfl (fun _ => rfl) ?_
      refine Rg.step 43 F_Arranger_findTimes_42 rfl (fun _ => rfl) ?_
      refine Rg.step 44 F_Arranger_findTimes_43 rfl (fun _ => rfl) ?_
      refine Rg.getf 47 F_Arranger_findTimes_44 rfl rF_13_39 gC_49 rfl ?_
      refine Rg.step 48 F_Arranger_findTimes_47 rfl (fun _ => rfl) ?_
      refine Rg.call 51 F_Arranger_findTimes_48 rfl (one_V rM_13_209 (by decide) (by simp) rfl rfl gC_49 rfl) (Nat.le_of_ble_eq_true rfl) (Cg.any hle) ?_
      refine Rg.lst 52 F_Arranger_findTimes_51 rfl gC_63 (by decide) sC_arLU (by omega) (by decide) ?_
      rw [mix_up (f := (fun s => lN s * (u / lD s)))]
      refine Rg.step 53 F_Arranger_findTimes_52 rfl (fun _ => rfl) ?_
      refine Rg.getf 56 F_Arranger_findTimes_53 rfl rF_13_53 gC_49 rfl ?_
      refine Rg.step 57 F_Arranger_findTimes_56 rfl (fun _ => rfl) ?_
      refine Rg.step 58 F_Arranger_findTimes_57 rfl (fun _ => rfl) ?_
      refine Rg.getf 61 F_Arranger_findTimes_58 rfl rF_13_46 gC_49 rfl ?_
      refine Rg.step 62 F_Arranger_findTimes_61 rfl (fun _ => rfl) ?_
      refine Rg.zld 63 F_Arranger_findTimes_62 rfl gC_62 (by omega) (by decide) ?_
      refine Rg.ifeqP 78 66 F_Arranger_findTimes_63 rfl rfl (fun h63 => absurd hH h63) (fun _ => ?_)
      refine Rg.step 67 F_Arranger_findTimes_66 rfl (fun _ => rfl) ?_
      refine Rg.step 68 F_Arranger_findTimes_67 rfl (fun _ => rfl) ?_
      refine Rg.getf 71 F_Arranger_findTimes_68 rfl rF_13_43 gC_49 rfl ?_
      refine Rg.step 72 F_Arranger_findTimes_71 rfl (fun _ => rfl) ?_
      refine Rg.call 75 F_Arranger_findTimes_72 rfl (one_V rM_13_209 (by decide) (by simp) rfl rfl gC_49 rfl) (Nat.le_of_ble_eq_true rfl) (Cg.any hge) ?_
      rw [← eG]
      refine Rg.step 79 F_Arranger_findTimes_75 rfl (fun _ => rfl) ?_
      refine Rg.lst 80 F_Arranger_findTimes_79 rfl gC_64 (by decide) sC_arGU (by omega) (by decide) ?_
      rw [mix_up (f := (fun s => if gD s = 0 then 0 else gN s * (u / gD s)))]
      refine Rg.inc 83 F_Arranger_findTimes_80 rfl rfl (by decide) ?_
      refine Rg.step 2 F_Arranger_findTimes_83 rfl (fun _ => rfl) ?_
      exact Rg.weak (ih (s + 1) (by omega) (by omega) (fun i z1 z2 => hn i (by omega) z2)) (by simp [lput1, lput2, Value.category, fi0, fi1, fi2, fi3] <;> first | rfl | exact ⟨rfl, rfl⟩) (by simp [lput1, lput2, Value.category, fi0, fi1, fi2, fi3] <;> first | rfl | exact ⟨rfl, rfl⟩)
theorem ft_bad {d n0 : Nat} (hU : ∀ s, 0 ≤ s → s < m → leN s = lN s ∧ leD s = lD s ∧ (arH s ↔ ¬ gD s = 0) ∧ (¬ gD s = 0 → grN s = gN s ∧ grD s = gD s)) (hb : WB m lN lD gN gD) (hm : 0 ≤ m ∧ m ≤ 12) (hu : 0 < u ∧ u ≤ 100000) {h : Int} (hh : h < m) (hB : (¬ gD h = 0 ∧ cmpF (gN h) (gD h) (lN h) (lD h) < 0)) : ∀ (n : Nat) (s : Int) (x y : Int → Int), s + n = h → 0 ≤ s → (∀ i, s ≤ i → i < h → ¬ (¬ gD i = 0 ∧ cmpF (gN i) (gD i) (lN i) (lD i) < 0)) → ∃ x1 y1, Rg false (d + 2) m_Arranger_findTimes n0 2 [(2, .int (iI s)), (0, .ref 49), (1, .ref 6)] [] (MC s0 s1 handN handD gT gF alE actions alM fiF fiN fiD epN epD goH goN goD plS plP plM plA plBN plBD plLN plLD plR veW veF veP vsF vsN vsD juM juP juTN juTD juO scN scD noF noN noD neF neN neD arP m arM u arF arR arL arT arA arS leN leD grN grD arH x y shN shD stF stN stD rest) (.inl (some (.int (bP False)))) (MC s0 s1 handN handD gT gF alE actions alM fiF fiN fiD epN epD goH goN goD plS plP plM plA plBN plBD plLN plLD plR veW veF veP vsF vsN vsD juM juP juTN juTD juO scN scD noF noN noD neF neN neD arP m arM u arF arR arL arT arA arS leN leD grN grD arH x1 y1 shN shD stF stN stD rest) := by
  intro n
  induction n with
  | zero =>
    intro s x y hs hs2 hn
    have es : s = h := by omega
    subst es
    obtain ⟨b1, b2, b3⟩ := hb s hs2 (by omega)
    obtain ⟨c1, c2, c3, c4⟩ := hU s hs2 (by omega)
    have b4 := b3 hB.1
    obtain ⟨c5, c6⟩ := c4 hB.1
    have hH : arH s := c3.mpr hB.1
    have hcc := hB.2
    have hc0 := cmpF_b (gN s) (gD s) (lN s) (lD s)
    rw [← c1, ← c2, ← c5, ← c6] at hcc hc0
    refine ⟨x, y, ?_⟩
    refine Rg.step 3 F_Arranger_findTimes_2 rfl (fun _ => rfl) ?_
    refine Rg.step 4 F_Arranger_findTimes_3 rfl (fun _ => rfl) ?_
    refine Rg.getf 7 F_Arranger_findTimes_4 rfl rF_13_68 gC_49 rfl ?_
    refine Rg.icgeI 86 10 F_Arranger_findTimes_7 rfl rfl (by omega) (by omega) (fun h7 => by omega) (fun _ => ?_)
    refine Rg.step 11 F_Arranger_findTimes_10 rfl (fun _ => rfl) ?_
    refine Rg.getf 14 F_Arranger_findTimes_11 rfl rF_13_46 gC_49 rfl ?_
    refine Rg.step 15 F_Arranger_findTimes_14 rfl (fun _ => rfl) ?_
    refine Rg.zld 16 F_Arranger_findTimes_15 rfl gC_62 (by omega) (by decide) ?_
    refine Rg.ifeqP 37 19 F_Arranger_findTimes_16 rfl rfl (fun h16 => absurd hH h16) (fun _ => ?_)
    refine Rg.step 20 F_Arranger_findTimes_19 rfl (fun _ => rfl) ?_
    refine Rg.getf 23 F_Arranger_findTimes_20 rfl rF_13_43 gC_49 rfl ?_
    refine Rg.step 24 F_Arranger_findTimes_23 rfl (fun _ => rfl) ?_
    refine Rg.step 25 F_Arranger_findTimes_24 rfl (fun _ => rfl) ?_
    refine Rg.getf 28 F_Arranger_findTimes_25 rfl rF_13_39 gC_49 rfl ?_
    refine Rg.step 29 F_Arranger_findTimes_28 rfl (fun _ => rfl) ?_
    refine Rg.call 32 F_Arranger_findTimes_29 rfl (one_V rM_13_179 (by decide) (by simp) rfl rfl gC_59 rfl) (Nat.le_of_ble_eq_true rfl) (Cg.any (c_FrI_order _ gF_gr gF_le (by omega) (by omega) (by omega) (by omega) (by omega) (by omega))) ?_
    refine Rg.ifgeI 37 35 F_Arranger_findTimes_32 rfl rfl (by omega) (fun h32 => by omega) (fun _ => ?_)
    refine Rg.step 36 F_Arranger_findTimes_35 rfl (fun _ => rfl) ?_
    exact Rg.ret0 F_Arranger_findTimes_36 rfl (fun z => z) rfl
  | succ n ih =>
    intro s x y hs hs2 hn
    obtain ⟨b1, b2, b3⟩ := hb s hs2 (by omega)
    obtain ⟨c1, c2, c3, c4⟩ := hU s hs2 (by omega)
    have hle := c_Ar_inu_le (actions := actions) (d := d + 1) (s0 := s0) (s1 := s1) (rest := rest) (handN := handN) (handD := handD) (gT := gT) (gF := gF) (alE := alE) (alM := alM) (fiF := fiF) (fiN := fiN) (fiD := fiD) (epN := epN) (epD := epD) (goH := goH) (goN := goN) (goD := goD) (plS := plS) (plP := plP) (plM := plM) (plA := plA) (plBN := plBN) (plBD := plBD) (plLN := plLN) (plLD := plLD) (plR := plR) (veW := veW) (veF := veF) (veP := veP) (vsF := vsF) (vsN := vsN) (vsD := vsD) (juM := juM) (juP := juP) (juTN := juTN) (juTD := juTD) (juO := juO) (scN := scN) (scD := scD) (noF := noF) (noN := noN) (noD := noD) (neF := neF) (neN := neN) (neD := neD) (arP := arP) (arB := m) (arM := arM) (arF := arF) (arR := arR) (arL := arL) (arT := arT) (arA := arA) (arS := arS) (leN := leN) (leD := leD) (grN := grN) (grD := grD) (arH := arH) (arLU := x) (arGU := y) (shN := shN) (shD := shD) (stF := stF) (stN := stN) (stD := stD) hu (i := s) (by omega) (by omega) (by omega)
    rw [c1, c2] at hle
    have hbad := hn s (by omega) (by omega)
    by_cases hz : gD s = 0
    · have hH : ¬ arH s := fun z => c3.mp z hz
      obtain ⟨x1, y1, ht⟩ := ih (s + 1) (up1 x s (lN s * (u / lD s))) (up1 y s 0) (by omega) (by omega) (fun i z1 z2 => hn i (by omega) z2)
      refine ⟨x1, y1, ?_⟩
      refine Rg.step 3 F_Arranger_findTimes_2 rfl (fun _ => rfl) ?_
      refine Rg.step 4 F_Arranger_findTimes_3 rfl (fun _ => rfl) ?_
      refine Rg.getf 7 F_Arranger_findTimes_4 rfl rF_13_68 gC_49 rfl ?_
      refine Rg.icgeI 86 10 F_Arranger_findTimes_7 rfl rfl (by omega) (by omega) (fun h7 => by omega) (fun _ => ?_)
      refine Rg.step 11 F_Arranger_findTimes_10 rfl (fun _ => rfl) ?_
      refine Rg.getf 14 F_Arranger_findTimes_11 rfl rF_13_46 gC_49 rfl ?_
      refine Rg.step 15 F_Arranger_findTimes_14 rfl (fun _ => rfl) ?_
      refine Rg.zld 16 F_Arranger_findTimes_15 rfl gC_62 (by omega) (by decide) ?_
      refine Rg.ifeqP 37 19 F_Arranger_findTimes_16 rfl rfl (fun _ => ?_) (fun h16 => absurd h16 hH)
      refine Rg.step 38 F_Arranger_findTimes_37 rfl (fun _ => rfl) ?_
      refine Rg.getf 41 F_Arranger_findTimes_38 rfl rF_13_50 gC_49 rfl ?_
      refine Rg.step 42 F_Arranger_findTimes_41 rfl (fun _ => rfl) ?_
      refine Rg.step 43 F_Arranger_findTimes_42 rfl (fun _ => rfl) ?_
      refine Rg.step 44 F_Arranger_findTimes_43 rfl (fun _ => rfl) ?_
      refine Rg.getf 47 F_Arranger_findTimes_44 rfl rF_13_39 gC_49 rfl ?_
      refine Rg.step 48 F_Arranger_findTimes_47 rfl (fun _ => rfl) ?_
      refine Rg.call 51 F_Arranger_findTimes_48 rfl (one_V rM_13_209 (by decide) (by simp) rfl rfl gC_49 rfl) (Nat.le_of_ble_eq_true rfl) (Cg.any hle) ?_
      refine Rg.lst 52 F_Arranger_findTimes_51 rfl gC_63 (by decide) sC_arLU (by omega) (by decide) ?_
      refine Rg.step 53 F_Arranger_findTimes_52 rfl (fun _ => rfl) ?_
      refine Rg.getf 56 F_Arranger_findTimes_53 rfl rF_13_53 gC_49 rfl ?_
      refine Rg.step 57 F_Arranger_findTimes_56 rfl (fun _ => rfl) ?_
      refine Rg.step 58 F_Arranger_findTimes_57 rfl (fun _ => rfl) ?_
      refine Rg.getf 61 F_Arranger_findTimes_58 rfl rF_13_46 gC_49 rfl ?_
      refine Rg.step 62 F_Arranger_findTimes_61 rfl (fun _ => rfl) ?_
      refine Rg.zld 63 F_Arranger_findTimes_62 rfl gC_62 (by omega) (by decide) ?_
      refine Rg.ifeqP 78 66 F_Arranger_findTimes_63 rfl rfl (fun _ => ?_) (fun h63 => absurd h63 hH)
      refine Rg.lcn (n := 0) 79 F_Arranger_findTimes_78 rfl rfl ?_
      refine Rg.lst 80 F_Arranger_findTimes_79 rfl gC_64 (by decide) sC_arGU (by omega) (by decide) ?_
      refine Rg.inc 83 F_Arranger_findTimes_80 rfl rfl (by decide) ?_
      refine Rg.step 2 F_Arranger_findTimes_83 rfl (fun _ => rfl) ?_
      exact Rg.weak ht (by simp [lput1, lput2, Value.category, fi0, fi1, fi2, fi3] <;> first | rfl | exact ⟨rfl, rfl⟩) (by simp [lput1, lput2, Value.category, fi0, fi1, fi2, fi3] <;> first | rfl | exact ⟨rfl, rfl⟩)
    · have hH : arH s := c3.mpr hz
      have b4 := b3 hz
      obtain ⟨c5, c6⟩ := c4 hz
      have hc0 := cmpF_b (gN s) (gD s) (lN s) (lD s)
      have hcc : ¬ cmpF (gN s) (gD s) (lN s) (lD s) < 0 := fun z => hbad ⟨hz, z⟩
      rw [← c1, ← c2, ← c5, ← c6] at hcc hc0
      have hge := c_Ar_inu_gr (actions := actions) (d := d + 1) (s0 := s0) (s1 := s1) (rest := rest) (handN := handN) (handD := handD) (gT := gT) (gF := gF) (alE := alE) (alM := alM) (fiF := fiF) (fiN := fiN) (fiD := fiD) (epN := epN) (epD := epD) (goH := goH) (goN := goN) (goD := goD) (plS := plS) (plP := plP) (plM := plM) (plA := plA) (plBN := plBN) (plBD := plBD) (plLN := plLN) (plLD := plLD) (plR := plR) (veW := veW) (veF := veF) (veP := veP) (vsF := vsF) (vsN := vsN) (vsD := vsD) (juM := juM) (juP := juP) (juTN := juTN) (juTD := juTD) (juO := juO) (scN := scN) (scD := scD) (noF := noF) (noN := noN) (noD := noD) (neF := neF) (neN := neN) (neD := neD) (arP := arP) (arB := m) (arM := arM) (arF := arF) (arR := arR) (arL := arL) (arT := arT) (arA := arA) (arS := arS) (leN := leN) (leD := leD) (grN := grN) (grD := grD) (arH := arH) (arLU := (up1 x s (lN s * (u / lD s)))) (arGU := y) (shN := shN) (shD := shD) (stF := stF) (stN := stN) (stD := stD) hu (i := s) (by omega) (by omega) (by omega)
      rw [c5, c6] at hge
      obtain ⟨x1, y1, ht⟩ := ih (s + 1) (up1 x s (lN s * (u / lD s))) (up1 y s (gN s * (u / gD s))) (by omega) (by omega) (fun i z1 z2 => hn i (by omega) z2)
      refine ⟨x1, y1, ?_⟩
      refine Rg.step 3 F_Arranger_findTimes_2 rfl (fun _ => rfl) ?_
      refine Rg.step 4 F_Arranger_findTimes_3 rfl (fun _ => rfl) ?_
      refine Rg.getf 7 F_Arranger_findTimes_4 rfl rF_13_68 gC_49 rfl ?_
      refine Rg.icgeI 86 10 F_Arranger_findTimes_7 rfl rfl (by omega) (by omega) (fun h7 => by omega) (fun _ => ?_)
      refine Rg.step 11 F_Arranger_findTimes_10 rfl (fun _ => rfl) ?_
      refine Rg.getf 14 F_Arranger_findTimes_11 rfl rF_13_46 gC_49 rfl ?_
      refine Rg.step 15 F_Arranger_findTimes_14 rfl (fun _ => rfl) ?_
      refine Rg.zld 16 F_Arranger_findTimes_15 rfl gC_62 (by omega) (by decide) ?_
      refine Rg.ifeqP 37 19 F_Arranger_findTimes_16 rfl rfl (fun h16 => absurd hH h16) (fun _ => ?_)
      refine Rg.step 20 F_Arranger_findTimes_19 rfl (fun _ => rfl) ?_
      refine Rg.getf 23 F_Arranger_findTimes_20 rfl rF_13_43 gC_49 rfl ?_
      refine Rg.step 24 F_Arranger_findTimes_23 rfl (fun _ => rfl) ?_
      refine Rg.step 25 F_Arranger_findTimes_24 rfl (fun _ => rfl) ?_
      refine Rg.getf 28 F_Arranger_findTimes_25 rfl rF_13_39 gC_49 rfl ?_
      refine Rg.step 29 F_Arranger_findTimes_28 rfl (fun _ => rfl) ?_
      refine Rg.call 32 F_Arranger_findTimes_29 rfl (one_V rM_13_179 (by decide) (by simp) rfl rfl gC_59 rfl) (Nat.le_of_ble_eq_true rfl) (Cg.any (c_FrI_order _ gF_gr gF_le (by omega) (by omega) (by omega) (by omega) (by omega) (by omega))) ?_
      refine Rg.ifgeI 37 35 F_Arranger_findTimes_32 rfl rfl (by omega) (fun _ => ?_) (fun h32 => by omega)
      refine Rg.step 38 F_Arranger_findTimes_37 rfl (fun _ => rfl) ?_
      refine Rg.getf 41 F_Arranger_findTimes_38 rfl rF_13_50 gC_49 rfl ?_
      refine Rg.step 42 F_Arranger_findTimes_41 rfl (fun _ => rfl) ?_
      refine Rg.step 43 F_Arranger_findTimes_42 rfl (fun _ => rfl) ?_
      refine Rg.step 44 F_Arranger_findTimes_43 rfl (fun _ => rfl) ?_
      refine Rg.getf 47 F_Arranger_findTimes_44 rfl rF_13_39 gC_49 rfl ?_
      refine Rg.step 48 F_Arranger_findTimes_47 rfl (fun _ => rfl) ?_
      refine Rg.call 51 F_Arranger_findTimes_48 rfl (one_V rM_13_209 (by decide) (by simp) rfl rfl gC_49 rfl) (Nat.le_of_ble_eq_true rfl) (Cg.any hle) ?_
      refine Rg.lst 52 F_Arranger_findTimes_51 rfl gC_63 (by decide) sC_arLU (by omega) (by decide) ?_
      refine Rg.step 53 F_Arranger_findTimes_52 rfl (fun _ => rfl) ?_
      refine Rg.getf 56 F_Arranger_findTimes_53 rfl rF_13_53 gC_49 rfl ?_
      refine Rg.step 57 F_Arranger_findTimes_56 rfl (fun _ => rfl) ?_
      refine Rg.step 58 F_Arranger_findTimes_57 rfl (fun _ => rfl) ?_
      refine Rg.getf 61 F_Arranger_findTimes_58 rfl rF_13_46 gC_49 rfl ?_
      refine Rg.step 62 F_Arranger_findTimes_61 rfl (fun _ => rfl) ?_
      refine Rg.zld 63 F_Arranger_findTimes_62 rfl gC_62 (by omega) (by decide) ?_
      refine Rg.ifeqP 78 66 F_Arranger_findTimes_63 rfl rfl (fun h63 => absurd hH h63) (fun _ => ?_)
      refine Rg.step 67 F_Arranger_findTimes_66 rfl (fun _ => rfl) ?_
      refine Rg.step 68 F_Arranger_findTimes_67 rfl (fun _ => rfl) ?_
      refine Rg.getf 71 F_Arranger_findTimes_68 rfl rF_13_43 gC_49 rfl ?_
      refine Rg.step 72 F_Arranger_findTimes_71 rfl (fun _ => rfl) ?_
      refine Rg.call 75 F_Arranger_findTimes_72 rfl (one_V rM_13_209 (by decide) (by simp) rfl rfl gC_49 rfl) (Nat.le_of_ble_eq_true rfl) (Cg.any hge) ?_
      refine Rg.step 79 F_Arranger_findTimes_75 rfl (fun _ => rfl) ?_
      refine Rg.lst 80 F_Arranger_findTimes_79 rfl gC_64 (by decide) sC_arGU (by omega) (by decide) ?_
      refine Rg.inc 83 F_Arranger_findTimes_80 rfl rfl (by decide) ?_
      refine Rg.step 2 F_Arranger_findTimes_83 rfl (fun _ => rfl) ?_
      exact Rg.weak ht (by simp [lput1, lput2, Value.category, fi0, fi1, fi2, fi3] <;> first | rfl | exact ⟨rfl, rfl⟩) (by simp [lput1, lput2, Value.category, fi0, fi1, fi2, fi3] <;> first | rfl | exact ⟨rfl, rfl⟩)
theorem c_Ar_findTimes {d : Nat} (hw : WT epsilonN epsilonD wishes wants wantN wantD actions needs needTime needOf needHow needN needD changes changeTime changeOf changeHow changeN changeD lastOf lastN lastD firstN firstD) (hE : epN 0 = epsilonN ∧ epD 0 = epsilonD) (hU : ∀ s, 0 ≤ s → s < m → leN s = lN s ∧ leD s = lD s ∧ (arH s ↔ ¬ gD s = 0) ∧ (¬ gD s = 0 → grN s = gN s ∧ grD s = gD s)) (hb : WB m lN lD gN gD) (hm : 0 ≤ m ∧ m ≤ 12) (hu : 0 < u ∧ u ≤ 100000) (hR : R = 2 * m) (hr : ∀ k, 0 ≤ k → k < R → 0 ≤ arR k ∧ arR k < 2 * m) (hinj : ∀ i j, 0 ≤ i → i < j → j < R → ¬ arR i = arR j) (hfull : ∀ p, 0 ≤ p → p < 2 * m → ∃ i, 0 ≤ i ∧ i < R ∧ arR i = p) (hI : ∀ p q, I p q → I q p) (hL : ∀ k, 0 ≤ k → k < R → LI arR I arL k) (hS : ∀ s, 0 ≤ s → s < m → 0 ≤ arS s ∧ arS s < R ∧ arR (arS s) = 2 * s) (hSb : ∀ i, 0 ≤ i → i < R → ¬ arR i % 2 = 0 → arS (arR i / 2) < i) (hX : ∀ s, 0 ≤ s → s < m → (lN s ≤ 10000 * lD s ∧ lD s ∣ u) ∧ (¬ gD s = 0 → gN s ≤ 10000 * gD s ∧ gD s ∣ u)) (hXe : epsilonN ≤ 10000 * epsilonD) : ∃ (V : Prop) (t1 lu gu : Int → Int), ((¬ V ∧ ¬ ∃ w, SolB m R arR I epsilonN epsilonD u lN lD gN gD w) ∨ (V ∧ SolB m R arR I epsilonN epsilonD u lN lD gN gD (fun p => t1 (posP arR R p)) ∧ ∀ w, SolB m R arR I epsilonN epsilonD u lN lD gN gD w → ∀ k, 0 ≤ k → k < R → t1 k ≤ w (arR k))) ∧ (V → ∀ k, 0 ≤ t1 k ∧ t1 k ≤ 10000000000000) ∧ Cg false (d + 2) m_Arranger_findTimes [.ref 49, .ref 6] (MC s0 s1 handN handD gT gF alE actions alM fiF fiN fiD epN epD goH goN goD plS plP plM plA plBN plBD plLN plLD plR veW veF veP vsF vsN vsD juM juP juTN juTD juO scN scD noF noN noD neF neN neD R m arM u arF arR arL arT arA arS leN leD grN grD arH arLU arGU shN shD stF stN stD rest) (.inl (some (.int (bP V)))) (MC s0 s1 handN handD gT gF alE actions alM fiF fiN fiD epN epD goH goN goD plS plP plM plA plBN plBD plLN plLD plR veW veF veP vsF vsN vsD juM juP juTN juTD juO scN scD noF noN noD neF neN neD R m arM u arF arR arL t1 arA arS leN leD grN grD arH lu gu shN shD stF stN stD rest) := by
  obtain ⟨wE, -, -, -, -, -, -, -, -, -, -, -, -, -, -, -, -, -, -, -, -⟩ := id hw
  rcases fst_or (fun s => (¬ gD s = 0 ∧ cmpF (gN s) (gD s) (lN s) (lD s) < 0)) m hm.1 with ⟨h, z1, z2, z3, z4⟩ | hno
  · obtain ⟨x1, y1, ht⟩ := ft_bad (d := d) (n0 := (MC s0 s1 handN handD gT gF alE actions alM fiF fiN fiD epN epD goH goN goD plS plP plM plA plBN plBD plLN plLD plR veW veF veP vsF vsN vsD juM juP juTN juTD juO scN scD noF noN noD neF neN neD R m arM u arF arR arL arT arA arS leN leD grN grD arH arLU arGU shN shD stF stN stD rest).length) (s0 := s0) (s1 := s1) (rest := rest) (handN := handN) (handD := handD) (gT := gT) (gF := gF) (alE := alE) (alM := alM) (fiF := fiF) (fiN := fiN) (fiD := fiD) (epN := epN) (epD := epD) (goH := goH) (goN := goN) (goD := goD) (plS := plS) (plP := plP) (plM := plM) (plA := plA) (plBN := plBN) (plBD := plBD) (plLN := plLN) (plLD := plLD) (plR := plR) (veW := veW) (veF := veF) (veP := veP) (vsF := vsF) (vsN := vsN) (vsD := vsD) (juM := juM) (juP := juP) (juTN := juTN) (juTD := juTD) (juO := juO) (scN := scN) (scD := scD) (noF := noF) (noN := noN) (noD := noD) (neF := neF) (neN := neN) (neD := neD) (arP := R) (arM := arM) (arF := arF) (arR := arR) (arL := arL) (arT := arT) (arA := arA) (arS := arS) (leN := leN) (leD := leD) (grN := grN) (grD := grD) (arH := arH) (shN := shN) (shD := shD) (stF := stF) (stN := stN) (stD := stD) hU hb hm hu z2 z3 h.toNat 0 arLU arGU (by omega) (by omega) z4
    obtain ⟨q1, q2, q3⟩ := hb h z1 z2
    obtain ⟨x2, x3⟩ := hX h z1 z2
    have x4 := x3 z3.1
    have hlt := gl_none (u := u) hu.1 (by omega) q1.2.2.1 x4.2 x2.2 z3.2
    have hL0 : 0 < lN h * (u / lD h) := Int.mul_pos q1.1 (Int.ediv_pos_of_pos_of_dvd hu.1 (by omega) x2.2)
    refine ⟨False, arT, x1, y1, Or.inl ⟨fun z => z, fun ⟨w, hw⟩ => ?_⟩, fun z => z.elim, ?_⟩
    · have y1 := hw.2.2.1 h z1 z2
      have y2 := hw.2.2.2 h z1 z2 z3.1
      dsimp only at y1 y2
      split at y2 <;> omega
    · refine Cg.of (Nat.le_of_ble_eq_true rfl) ?_
      change Rg _ _ _ _ 0 [(0, .ref 49), (1, .ref 6)] [] _ _ _
      refine Rg.step 1 F_Arranger_findTimes_0 rfl (fun _ => rfl) ?_
      refine Rg.step 2 F_Arranger_findTimes_1 rfl (fun _ => rfl) ?_
      exact Rg.weak ht (by simp [lput1, lput2, Value.category, fi0, fi1, fi2, fi3] <;> first | rfl | exact ⟨rfl, rfl⟩) (by simp [lput1, lput2, Value.category, fi0, fi1, fi2, fi3] <;> first | rfl | exact ⟨rfl, rfl⟩)
  · have hlu : ∀ s, 0 ≤ s → s < m → (mix m (fun s => lN s * (u / lD s)) arLU) s = lN s * (u / lD s) := fun s y1 y2 => by unfold mix; rw [if_pos y2]
    have hgu : ∀ s, 0 ≤ s → s < m → ¬ gD s = 0 → (mix m (fun s => if gD s = 0 then 0 else gN s * (u / gD s)) arGU) s = gN s * (u / gD s) := fun s y1 y2 y3 => by unfold mix; rw [if_pos y2]; exact if_neg y3
    have hgp : ∀ s, 0 ≤ s → s < m → ¬ gD s = 0 → 0 ≤ gN s := fun s y1 y2 y3 => by
      have w1 := hno s y1 y2
      obtain ⟨q1, q2, q3⟩ := hb s y1 y2
      refine Classical.byContradiction (fun z => w1 ⟨y3, ?_⟩)
      rw [cmpF_lt0]
      unfold leF
      have k1 : gN s * lD s < 0 := Int.mul_neg_of_neg_of_pos (by omega) q1.2.2.1
      have k2 : 0 ≤ lN s * gD s := Int.mul_nonneg (by omega) (by omega)
      omega
    have hEu := unit_bd (n := epsilonN) (d := epsilonD) (by omega) hXe wE.2.2.1 hu
    have hin : ∀ i, 0 ≤ i → i < R → 0 ≤ arR i / 2 ∧ arR i / 2 < m := fun i y1 y2 => by have := hr i y1 y2; omega
    have hLUb : ∀ i, 0 ≤ i → i < R → 0 ≤ (mix m (fun s => lN s * (u / lD s)) arLU) (arR i / 2) ∧ (mix m (fun s => lN s * (u / lD s)) arLU) (arR i / 2) ≤ 1000000000 := fun i y1 y2 => by
      have w1 := hin i y1 y2
      have w2 := hb _ w1.1 w1.2
      rw [hlu _ w1.1 w1.2]
      exact unit_bd (by omega) ((hX _ w1.1 w1.2).1.1) (by omega) hu
    have hGUb : ∀ i, 0 ≤ i → i < R → 0 ≤ (mix m (fun s => if gD s = 0 then 0 else gN s * (u / gD s)) arGU) (arR i / 2) ∧ (mix m (fun s => if gD s = 0 then 0 else gN s * (u / gD s)) arGU) (arR i / 2) ≤ 1000000000 := fun i y1 y2 => by
      have w1 := hin i y1 y2
      have w2 := hb _ w1.1 w1.2
      by_cases hz : gD (arR i / 2) = 0
      · unfold mix
        rw [if_pos w1.2]
        dsimp only
        rw [if_pos hz]
        omega
      · rw [hgu _ w1.1 w1.2 hz]
        exact unit_bd (hgp _ w1.1 w1.2 hz) (((hX _ w1.1 w1.2).2 hz).1) (by omega) hu
    have hL8 : ∀ i, 0 ≤ i → i < R → -1 ≤ arL i ∧ arL i < 24 ∧ (¬ arL i = -1 → 0 ≤ arL i ∧ arL i < i) := fun i y1 y2 => by
      rcases hL i y1 y2 with ⟨w1, _⟩ | ⟨w1, w2, _, _⟩ <;> omega
    have hS8 : ∀ i, 0 ≤ i → i < R → ¬ arR i % 2 = 0 → 0 ≤ arS (arR i / 2) ∧ arS (arR i / 2) < i ∧ arR (arS (arR i / 2)) % 2 = 0 := fun i y1 y2 y3 => by
      have w1 := hin i y1 y2
      have w2 := hS _ w1.1 w1.2
      have w3 := hSb i y1 y2 y3
      omega
    have hSC : ∀ w, Sol m R arR I (epsilonN * (u / epsilonD)) (mix m (fun s => lN s * (u / lD s)) arLU) arH (mix m (fun s => if gD s = 0 then 0 else gN s * (u / gD s)) arGU) w ↔ SolB m R arR I epsilonN epsilonD u lN lD gN gD w := fun w => Sol_c2 hlu (fun s y1 y2 => (hU s y1 y2).2.2.1) (fun s y1 y2 y3 => by rw [hgu s y1 y2 y3, if_neg (by have := hgp s y1 y2 y3; omega)])
    have hr24 : ∀ i, 0 ≤ i → i < R → 0 ≤ arR i ∧ arR i < 24 := fun i y1 y2 => by have := hr i y1 y2; omega
    obtain ⟨V, t1, hE1, hbb, ht⟩ := rd_loop (d := d) (n0 := (MC s0 s1 handN handD gT gF alE actions alM fiF fiN fiD epN epD goH goN goD plS plP plM plA plBN plBD plLN plLD plR veW veF veP vsF vsN vsD juM juP juTN juTD juO scN scD noF noN noD neF neN neD R m arM u arF arR arL arT arA arS leN leD grN grD arH arLU arGU shN shD stF stN stD rest).length) (s0 := s0) (s1 := s1) (rest := rest) (handN := handN) (handD := handD) (gT := gT) (gF := gF) (alE := alE) (alM := alM) (fiF := fiF) (fiN := fiN) (fiD := fiD) (epN := epN) (epD := epD) (goH := goH) (goN := goN) (goD := goD) (plS := plS) (plP := plP) (plM := plM) (plA := plA) (plBN := plBN) (plBD := plBD) (plLN := plLN) (plLD := plLD) (plR := plR) (veW := veW) (veF := veF) (veP := veP) (vsF := vsF) (vsN := vsN) (vsD := vsD) (juM := juM) (juP := juP) (juTN := juTN) (juTD := juTD) (juO := juO) (scN := scN) (scD := scD) (noF := noF) (noN := noN) (noD := noD) (neF := neF) (neN := neN) (neD := neD) (arM := arM) (arU := u) (arF := arF) (arR := arR) (arL := arL) (arA := arA) (arS := arS) (leN := leN) (leD := leD) (grN := grN) (grD := grD) (arH := arH) (arLU := (mix m (fun s => lN s * (u / lD s)) arLU)) (arGU := (mix m (fun s => if gD s = 0 then 0 else gN s * (u / gD s)) arGU)) (shN := shN) (shD := shD) (stF := stF) (stN := stN) (stD := stD) (R := R) (Eu := (epsilonN * (u / epsilonD))) (m := m) (by omega) hr24 hL8 hS8 hLUb hGUb hEu hm (fun i y1 y2 _ => hin i y1 y2) (m + 1).toNat 0 (fun _ => 0) (by omega) (by omega) (fun k => by omega) (fun w hw k => hw.1 k) (fun w hw => Nat.zero_le _)
    have hep := c_Ar_inu_ep (actions := actions) (d := d + 1) (s0 := s0) (s1 := s1) (rest := rest) (handN := handN) (handD := handD) (gT := gT) (gF := gF) (alE := alE) (alM := alM) (fiF := fiF) (fiN := fiN) (fiD := fiD) (epN := epN) (epD := epD) (goH := goH) (goN := goN) (goD := goD) (plS := plS) (plP := plP) (plM := plM) (plA := plA) (plBN := plBN) (plBD := plBD) (plLN := plLN) (plLD := plLD) (plR := plR) (veW := veW) (veF := veF) (veP := veP) (vsF := vsF) (vsN := vsN) (vsD := vsD) (juM := juM) (juP := juP) (juTN := juTN) (juTD := juTD) (juO := juO) (scN := scN) (scD := scD) (noF := noF) (noN := noN) (noD := noD) (neF := neF) (neN := neN) (neD := neD) (arP := R) (arB := m) (arM := arM) (arF := arF) (arR := arR) (arL := arL) (arT := (fun _ => 0)) (arA := arA) (arS := arS) (leN := leN) (leD := leD) (grN := grN) (grD := grD) (arH := arH) (arLU := (mix m (fun s => lN s * (u / lD s)) arLU)) (arGU := (mix m (fun s => if gD s = 0 then 0 else gN s * (u / gD s)) arGU)) (shN := shN) (shD := shD) (stF := stF) (stN := stN) (stD := stD) hu (i := 0) (by omega) (by omega) (by omega)
    rw [hE.1, hE.2] at hep
    have hfi := Cg.toM sC_arT (c_fillL (d := d + 1) (mem := (MC s0 s1 handN handD gT gF alE actions alM fiF fiN fiD epN epD goH goN goD plS plP plM plA plBN plBD plLN plLD plR veW veF veP vsF vsN vsD juM juP juTN juTD juO scN scD noF noN noD neF neN neD R m arM u arF arR arL arT arA arS leN leD grN grD arH (mix m (fun s => lN s * (u / lD s)) arLU) (mix m (fun s => if gD s = 0 then 0 else gN s * (u / gD s)) arGU) shN shD stF stN stD rest)) (v := 0) gC_53 (by decide) (by decide))
    refine ⟨V, t1, (mix m (fun s => lN s * (u / lD s)) arLU), (mix m (fun s => if gD s = 0 then 0 else gN s * (u / gD s)) arGU), ?_, fun _ => hbb, ?_⟩
    · rcases hE1 with ⟨v1, v2⟩ | ⟨v1, v2, v3⟩
      · exact Or.inl ⟨v1, fun ⟨w, hw⟩ => v2 ⟨_, sol_up hr hI hEu.1 hL hS ((hSC w).mpr hw)⟩⟩
      · exact Or.inr ⟨v1, (hSC _).mp (up_sol hr hinj hfull hI hEu.1 hL hS v2), fun w hw k _ _ => v3 _ (sol_up hr hI hEu.1 hL hS ((hSC w).mpr hw)) k⟩
    · refine Cg.of (Nat.le_of_ble_eq_true rfl) ?_
      change Rg _ _ _ _ 0 [(0, .ref 49), (1, .ref 6)] [] _ _ _
      refine Rg.step 1 F_Arranger_findTimes_0 rfl (fun _ => rfl) ?_
      refine Rg.step 2 F_Arranger_findTimes_1 rfl (fun _ => rfl) ?_
      refine Rg.frM ((kC_arLU (mix0_L (fun s => lN s * (u / lD s)) arLU)).trans (kC_arGU (mix0_L (fun s => if gD s = 0 then 0 else gN s * (u / gD s)) arGU))) (Rg.weak (ft_ok hU hb hm hu ?_ m.toNat 0 (by omega) (by omega) hno) (by simp [lput1, lput2, Value.category, fi0, fi1, fi2, fi3] <;> first | rfl | exact ⟨rfl, rfl⟩) (by simp [lput1, lput2, Value.category, fi0, fi1, fi2, fi3] <;> first | rfl | exact ⟨rfl, rfl⟩))
      refine Rg.step 87 F_Arranger_findTimes_86 rfl (fun _ => rfl) ?_
      refine Rg.getf 90 F_Arranger_findTimes_87 rfl rF_13_24 gC_49 rfl ?_
      refine Rg.lcn (n := 0) 91 F_Arranger_findTimes_90 rfl rfl ?_
      refine Rg.call 94 F_Arranger_findTimes_91 rfl (one_S (by decide +kernel) rM_13_213 (by decide) (by simp) rfl rfl) (Nat.le_of_ble_eq_true rfl) hfi ?_
      refine Rg.step 95 F_Arranger_findTimes_94 rfl (fun _ => rfl) ?_
      refine Rg.step 96 F_Arranger_findTimes_95 rfl (fun _ => rfl) ?_
      refine Rg.getf 99 F_Arranger_findTimes_96 rfl rF_13_176 gC_6 rfl ?_
      refine Rg.step 100 F_Arranger_findTimes_99 rfl (fun _ => rfl) ?_
      refine Rg.call 103 F_Arranger_findTimes_100 rfl (one_V rM_13_209 (by decide) (by simp) rfl rfl gC_49 rfl) (Nat.le_of_ble_eq_true rfl) (Cg.any hep) ?_
      refine Rg.step 104 F_Arranger_findTimes_103 rfl (fun _ => rfl) ?_
      refine Rg.step 105 F_Arranger_findTimes_104 rfl (fun _ => rfl) ?_
      refine Rg.step 107 F_Arranger_findTimes_105 rfl (fun _ => rfl) ?_
      exact Rg.weak ht (by simp [lput1, lput2, Value.category, fi0, fi1, fi2, fi3] <;> first | rfl | exact ⟨rfl, rfl⟩) (by simp [lput1, lput2, Value.category, fi0, fi1, fi2, fi3] <;> first | rfl | exact ⟨rfl, rfl⟩)
end R77
