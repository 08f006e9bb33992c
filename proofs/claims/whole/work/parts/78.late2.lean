/-! The class: arranging. -/
theorem cntP_m {m : Int} : ∀ (n : Nat), 0 ≤ m → m ≤ n → (cntP (fun s => s < m) n : Int) = m := by
  intro n
  induction n with
  | zero => intro h0 h1; unfold cntP; omega
  | succ n ih =>
    intro h0 h1
    unfold cntP
    by_cases h : (n : Int) < m
    · rw [if_pos h]
      have hb : cntP (fun s => s < m) n = n := by
        have : ∀ k : Nat, k ≤ n → cntP (fun s => s < m) k = k := by
          intro k
          induction k with
          | zero => intro _; rfl
          | succ k ihk =>
            intro hk
            unfold cntP
            rw [if_pos (by omega), ihk (by omega)]
        exact this n (Nat.le_refl _)
      rw [hb]
      omega
    · rw [if_neg h]
      have := ih h0 (by omega)
      omega
def ArrT (m R : Int) (row : Int → Int) (FT : NS → Int → Int → Prop) (CC : NS → Int → Option NS) (BN : NS → Int → NB) (GO : NS → Prop) (I : Int → Int → Prop) (eN eD : Int) (n : Nat) (k : Int) (gone : Int → Prop) (S0 : NS) (B0 : Int → NB) (why pt : Int) (S1 : NS) (u : Int) (t : Int → Int) : Prop :=
  ∃ why0 B1, WalkR m row FT CC BN GO n k gone S0 B0 why0 pt S1 B1 ∧ ((1 ≤ why0 ∧ why = why0) ∨ (why0 = 0 ∧ ((unitA eN eD m (fun s => (B1 s).1) (fun s => (B1 s).2.1) (fun s => (B1 s).2.2.1) (fun s => (B1 s).2.2.2) = none ∧ why = 8) ∨ (∃ u0, unitA eN eD m (fun s => (B1 s).1) (fun s => (B1 s).2.1) (fun s => (B1 s).2.2.1) (fun s => (B1 s).2.2.2) = some u0 ∧ ((why = 7 ∧ ¬ ∃ v, SolB m R row I eN eD u0 (fun s => (B1 s).1) (fun s => (B1 s).2.1) (fun s => (B1 s).2.2.1) (fun s => (B1 s).2.2.2) v) ∨ (why = 0 ∧ u = u0 ∧ SolB m R row I eN eD u0 (fun s => (B1 s).1) (fun s => (B1 s).2.1) (fun s => (B1 s).2.2.1) (fun s => (B1 s).2.2.2) t ∧ ∀ v, SolB m R row I eN eD u0 (fun s => (B1 s).1) (fun s => (B1 s).2.1) (fun s => (B1 s).2.2.1) (fun s => (B1 s).2.2.2) v → ∀ p, 0 ≤ p → p < 2 * m → t p ≤ v p))))))
theorem LI_c {r r1 : Int → Int} {I : Int → Int → Prop} {arL : Int → Int} {k : Int} (h : ∀ i, 0 ≤ i → i ≤ k → r1 i = r i) (hk : 0 ≤ k) (hl : LI r I arL k) : LI r1 I arL k := by
  unfold LI at *
  rw [h k hk (by omega)]
  rcases hl with ⟨a, b⟩ | ⟨a, b, c, d⟩
  · exact Or.inl ⟨a, fun j z1 z2 => by rw [h j z1 (by omega)]; exact b j z1 z2⟩
  · exact Or.inr ⟨a, b, by rw [h _ a (by omega)]; exact c, fun j z1 z2 => by rw [h j (by omega) (by omega)]; exact d j z1 z2⟩

section R78
variable {s0 s1 : AC} {rest : AM} {ab : Int → Nat}
variable {alS alM plS plP veW veF veP juP arP arB arU arF : Int}
variable {handN handD fiN fiD epN epD goH goN goD plA plBN plBD plLN plLD plR vsN vsD juTN juTD juO scN scD noN noD neN neD arR arL arT arA arS leN leD grN grD arLU arGU shN shD : Int → Int}
variable {stN stD : Int → Int → Int}
variable {stF : Int → Int → Prop}
variable {gT gF fiF plM vsF juM noF neF arM arH : Int → Prop}
variable {alE : Nat}
variable {code amountN amountD momentN momentD epsilonN epsilonD actions steps rows tried triedRows unit point judged fault faultPoint outN outD : Int}
variable {firstN firstD wishes wants wantN wantD needs needTime needOf needHow needN needD changes changeTime changeOf changeHow changeN changeD lastOf lastN lastD stepAction startN startD lengthN lengthD row triedAction triedRow times numN numD oldN oldD toldN toldD pointN pointD leastN leastD greatestN greatestD events : Int → Int}
variable {firstFacts facts oldFacts toldFacts gone now : Int → Prop}
variable {A r : Int → Int} {σ : Int → NS} {B : Int → NB} {m R k : Int}
theorem c_Ar_late {d : Nat} (hw : WT epsilonN epsilonD wishes wants wantN wantD actions needs needTime needOf needHow needN needD changes changeTime changeOf changeHow changeN changeD lastOf lastN lastD firstN firstD) (hO : ActsOK needs needTime needOf needHow needN needD changes changeTime changeOf changeHow changeN changeD lastOf lastN lastD rest alE actions ab) (hE : epN 0 = epsilonN ∧ epD 0 = epsilonD) (hT : ∀ i, 0 ≤ i → i < 24 → (gT i ↔ i < 16 ∧ wishes i = 1)) (hF : ∀ i, 0 ≤ i → i < 24 → (gF i ↔ i < 16 ∧ wishes i = 0)) (hH : goH = wants) (hgN : goN = wantN) (hgD : goD = wantD) (hm : 0 ≤ m ∧ m ≤ 12) (hR : R = 2 * m) (hok : ∀ k, 0 ≤ k → k < R → RowOK r m k) (wN : WN (stN R) (stD R)) (hai : ArI A r (intP A needs needTime needHow needOf lastOf changes changeTime changeHow changeOf) R σ B arB arM arR arL arA arS leN leD grN grD arH stF stN stD) : ∃ (V u1 : Int) (t1 x1 y1 lu gu : Int → Int), ((V = 6 ∧ ¬ goal wishes wants wantN wantD (stF R) (stN R) (stD R)) ∨ (goal wishes wants wantN wantD (stF R) (stN R) (stD R) ∧ ((V = 8 ∧ unitA epsilonN epsilonD m (fun s => (B s).1) (fun s => (B s).2.1) (fun s => (B s).2.2.1) (fun s => (B s).2.2.2) = none) ∨ (∃ u0, unitA epsilonN epsilonD m (fun s => (B s).1) (fun s => (B s).2.1) (fun s => (B s).2.2.1) (fun s => (B s).2.2.2) = some u0 ∧ ((V = 7 ∧ ¬ ∃ w, (SolB m R r (intP A needs needTime needHow needOf lastOf changes changeTime changeHow changeOf) epsilonN epsilonD u0 (fun s => (B s).1) (fun s => (B s).2.1) (fun s => (B s).2.2.1) (fun s => (B s).2.2.2)) w) ∨ (V = 0 ∧ u1 = u0 ∧ (SolB m R r (intP A needs needTime needHow needOf lastOf changes changeTime changeHow changeOf) epsilonN epsilonD u0 (fun s => (B s).1) (fun s => (B s).2.1) (fun s => (B s).2.2.1) (fun s => (B s).2.2.2)) (fun p => t1 (posP arR R p)) ∧ ∀ w, (SolB m R r (intP A needs needTime needHow needOf lastOf changes changeTime changeHow changeOf) epsilonN epsilonD u0 (fun s => (B s).1) (fun s => (B s).2.1) (fun s => (B s).2.2.1) (fun s => (B s).2.2.2)) w → ∀ p, 0 ≤ p → p < 2 * m → (fun p => t1 (posP arR R p)) p ≤ w p)))))) ∧ (V = 0 → (0 < u1 ∧ u1 ≤ 100000) ∧ ∀ k, 0 ≤ t1 k ∧ t1 k ≤ 10000000000000) ∧ (0 ≤ V ∧ V ≤ 8) ∧ Cg false (d + 4) m_Arranger_findLateFault [.ref 49, .ref 6] (MC s0 s1 handN handD gT gF alE actions alM fiF fiN fiD epN epD goH goN goD plS plP plM plA plBN plBD plLN plLD plR veW veF veP vsF vsN vsD juM juP juTN juTD juO scN scD noF noN noD neF neN neD R arB arM arU arF arR arL arT arA arS leN leD grN grD arH arLU arGU shN shD stF stN stD rest) (.inl (some (.int (iI V)))) (MC s0 s1 handN handD gT gF alE actions alM fiF fiN fiD epN epD goH goN goD plS plP plM plA plBN plBD plLN plLD plR veW veF veP vsF vsN vsD juM juP juTN juTD juO scN scD noF noN noD neF neN neD R arB arM u1 (-1) arR arL t1 arA arS leN leD grN grD arH lu gu x1 y1 stF stN stD rest) := by
  obtain ⟨wE, -, -, -, -, -, -, -, -, -, -, -, -, -, -, -, -, -, -, -, -⟩ := id hw
  obtain ⟨i1, i2, i3, i4, i5, i6⟩ := id hai
  have hk0 : 0 ≤ R ∧ R < 25 := by omega
  have hr : ∀ k, 0 ≤ k → k < R → 0 ≤ r k ∧ r k < 2 * m := fun k z1 z2 => (hok k z1 z2).1
  have hinj : ∀ i j, 0 ≤ i → i < j → j < R → ¬ r i = r j := fun i j z1 z2 z3 z => (hok j (by omega) z3).2.1 ⟨i, z1, z2, z⟩
  have hfull : ∀ p, 0 ≤ p → p < 2 * m → ∃ i, 0 ≤ i ∧ i < R ∧ r i = p := fun p z1 z2 => by
    obtain ⟨j, j1, j2, j3⟩ := inj_full (n := R.toNat) (T := r) (fun i y1 y2 => by have := hr i y1 (by omega); omega) (fun i j y1 y2 y3 => hinj i j y1 y2 (by omega)) p z1 (by omega)
    exact ⟨j, j1, by omega, j3⟩
  have hbg : ∀ s, 0 ≤ s → s < m → grp r 0 R (2 * s) := fun s z1 z2 => hfull (2 * s) (by omega) (by omega)
  have hBd : ∀ s, 0 ≤ s → s < m → BdC A r R B arA arS leN leD grN grD arH s := fun s z1 z2 => i5 s z1 (hbg s z1 z2)
  have hU : ∀ s, 0 ≤ s → s < m → leN s = (B s).1 ∧ leD s = (B s).2.1 ∧ (arH s ↔ ¬ (B s).2.2.2 = 0) ∧ (¬ (B s).2.2.2 = 0 → grN s = (B s).2.2.1 ∧ grD s = (B s).2.2.2) := fun s z1 z2 => by
    obtain ⟨y1, y2, y3, y4, y5, y6, y7⟩ := hBd s z1 z2
    exact ⟨y3, y4, y5, y6⟩
  have hb : WB m (fun s => (B s).1) (fun s => (B s).2.1) (fun s => (B s).2.2.1) (fun s => (B s).2.2.2) := fun s z1 z2 => (hBd s z1 z2).2.2.2.2.2.2
  have hB12 : arB = m := by
    rw [i3, cntP_c (B := fun s => s < m) 12 (fun s z1 z2 => ⟨fun ⟨i, y1, y2, y3⟩ => by have := hr i y1 y2; omega, fun z => hbg s z1 z⟩)]
    exact cntP_m 12 hm.1 (by omega)
  subst hB12
  have ha : ∀ i, 0 ≤ i → i < R → arR i = r i := i1
  have hSC : ∀ u0 w, SolB arB R arR (intP A needs needTime needHow needOf lastOf changes changeTime changeHow changeOf) epsilonN epsilonD u0 (fun s => (B s).1) (fun s => (B s).2.1) (fun s => (B s).2.2.1) (fun s => (B s).2.2.2) w ↔ SolB arB R r (intP A needs needTime needHow needOf lastOf changes changeTime changeHow changeOf) epsilonN epsilonD u0 (fun s => (B s).1) (fun s => (B s).2.1) (fun s => (B s).2.2.1) (fun s => (B s).2.2.2) w := fun u0 w => Sol_c (fun k z1 z2 => ⟨ha k z1 z2, hr k z1 z2⟩) (fun p q _ _ _ _ => Iff.rfl)
  by_cases hgo : goal wishes wants wantN wantD (stF R) (stN R) (stD R)
  · obtain ⟨u1, x1, y1, hu1, hcu⟩ := c_Ar_findUnit (d := d + 1) (lN := (fun s => (B s).1)) (lD := (fun s => (B s).2.1)) (gN := (fun s => (B s).2.2.1)) (gD := (fun s => (B s).2.2.2)) (m := arB) (s0 := s0) (s1 := s1) (rest := rest) (handN := handN) (handD := handD) (gT := gT) (gF := gF) (alE := alE) (alM := alM) (fiF := fiF) (fiN := fiN) (fiD := fiD) (epN := epN) (epD := epD) (goH := goH) (goN := goN) (goD := goD) (plS := plS) (plP := plP) (plM := plM) (plA := plA) (plBN := plBN) (plBD := plBD) (plLN := plLN) (plLD := plLD) (plR := plR) (veW := veW) (veF := veF) (veP := veP) (vsF := vsF) (vsN := vsN) (vsD := vsD) (juM := juM) (juP := juP) (juTN := juTN) (juTD := juTD) (juO := juO) (scN := scN) (scD := scD) (noF := noF) (noN := noN) (noD := noD) (neF := neF) (neN := neN) (neD := neD) (arP := R) (arM := arM) (arU := arU) (arF := (-1)) (arR := arR) (arL := arL) (arT := arT) (arA := arA) (arS := arS) (leN := leN) (leD := leD) (grN := grN) (grD := grD) (arH := arH) (arLU := arLU) (arGU := arGU) (shN := shN) (shD := shD) (stF := stF) (stN := stN) (stD := stD) hw hE hU hb hm
    cases hj : unitA epsilonN epsilonD arB (fun s => (B s).1) (fun s => (B s).2.1) (fun s => (B s).2.2.1) (fun s => (B s).2.2.2) with
    | none =>
      have hN : ¬ ∃ v, unitA epsilonN epsilonD arB (fun s => (B s).1) (fun s => (B s).2.1) (fun s => (B s).2.2.1) (fun s => (B s).2.2.2) = some v := by
        rintro ⟨v, hv⟩
        rw [hj] at hv
        cases hv
      refine ⟨8, u1, arT, x1, y1, arLU, arGU, Or.inr ⟨hgo, Or.inl ⟨rfl, rfl⟩⟩, fun z => absurd z (by omega), by omega, ?_⟩
      refine Cg.of (Nat.le_of_ble_eq_true rfl) ?_
      change Rg _ _ _ _ 0 [(0, .ref 49), (1, .ref 6)] [] _ _ _
      refine Rg.step 1 F_Arranger_findLateFault_0 rfl (fun _ => rfl) ?_
      refine Rg.step 2 F_Arranger_findLateFault_1 rfl (fun _ => rfl) ?_
      refine Rg.put 5 F_Arranger_findLateFault_2 rfl rF_13_112 gC_49 (by decide) (Nat.le_of_ble_eq_true rfl) (Or.inl rfl) rfl sO_arF ?_
      refine Rg.step 6 F_Arranger_findLateFault_5 rfl (fun _ => rfl) ?_
      refine Rg.step 7 F_Arranger_findLateFault_6 rfl (fun _ => rfl) ?_
      refine Rg.getf 10 F_Arranger_findLateFault_7 rfl rF_13_11 gC_49 rfl ?_
      refine Rg.step 11 F_Arranger_findLateFault_10 rfl (fun _ => rfl) ?_
      refine Rg.getf 14 F_Arranger_findLateFault_11 rfl rF_13_64 gC_49 rfl ?_
      refine Rg.aald 15 F_Arranger_findLateFault_14 rfl gC_50 (ix_iI (by omega)) (gStates hk0) ?_
      refine Rg.call 18 F_Arranger_findLateFault_15 rfl (one_V rM_13_138 (by decide) (by simp) rfl rfl gC_6 rfl) (Nat.le_of_ble_eq_true rfl) (Cg.any (c_Task_isGoalMet hw hT hF hH hgN hgD (gS_State hk0) (gF_st hk0) wN)) ?_
      refine Rg.ifneP 24 21 F_Arranger_findLateFault_18 rfl rfl (fun _ => ?_) (fun h18 => absurd hgo h18)
      refine Rg.step 25 F_Arranger_findLateFault_24 rfl (fun _ => rfl) ?_
      refine Rg.step 26 F_Arranger_findLateFault_25 rfl (fun _ => rfl) ?_
      refine Rg.call 29 F_Arranger_findLateFault_26 rfl (one_V rM_13_142 (by decide) (by simp) rfl rfl gC_49 rfl) (Nat.le_of_ble_eq_true rfl) hcu ?_
      refine Rg.ifneP 35 32 F_Arranger_findLateFault_29 rfl rfl (fun h29 => absurd h29 hN) (fun _ => ?_)
      refine Rg.bip 34 F_Arranger_findLateFault_32 rfl rfl ?_
      exact Rg.retI F_Arranger_findLateFault_34 rfl rfl rfl
    | some u0 =>
      have e1 : u1 = u0 := hu1 u0 hj
      subst e1
      have hY : ∃ v, unitA epsilonN epsilonD arB (fun s => (B s).1) (fun s => (B s).2.1) (fun s => (B s).2.2.1) (fun s => (B s).2.2.2) = some v := ⟨u1, hj⟩
      have hj0 := hj
      unfold unitA at hj0
      cases hj1 : joinF 1 epsilonN epsilonD with
      | none => rw [hj1] at hj0; cases hj0
      | some ue =>
        rw [hj1, Option.bind_some] at hj0
        obtain ⟨je1, je2, je3, je4⟩ := joinF_some (u := 1) (by omega) wE.2.2.1 hj1
        obtain ⟨hu, ju2, ju3⟩ := unitF_some hb arB.toNat 0 ue u1 (by omega) (by omega) je1 hj0
        obtain ⟨V, t1, lu, gu, hE1, hbb, hct⟩ := c_Ar_findTimes (d := d + 1) (R := R) (m := arB) (u := u1) (I := (intP A needs needTime needHow needOf lastOf changes changeTime changeHow changeOf)) (s0 := s0) (s1 := s1) (rest := rest) (handN := handN) (handD := handD) (gT := gT) (gF := gF) (alE := alE) (alM := alM) (fiF := fiF) (fiN := fiN) (fiD := fiD) (epN := epN) (epD := epD) (goH := goH) (goN := goN) (goD := goD) (plS := plS) (plP := plP) (plM := plM) (plA := plA) (plBN := plBN) (plBD := plBD) (plLN := plLN) (plLD := plLD) (plR := plR) (veW := veW) (veF := veF) (veP := veP) (vsF := vsF) (vsN := vsN) (vsD := vsD) (juM := juM) (juP := juP) (juTN := juTN) (juTD := juTD) (juO := juO) (scN := scN) (scD := scD) (noF := noF) (noN := noN) (noD := noD) (neF := neF) (neN := neN) (neD := neD) (arM := arM) (arF := (-1)) (arR := arR) (arL := arL) (arT := arT) (arA := arA) (arS := arS) (leN := leN) (leD := leD) (grN := grN) (grD := grD) (arH := arH) (arLU := arLU) (arGU := arGU) (shN := x1) (shD := y1) (stF := stF) (stN := stN) (stD := stD) hw hE hU hb hm hu hR (fun k z1 z2 => by rw [ha k z1 z2]; exact hr k z1 z2) (fun i j z1 z2 z3 => by rw [ha i z1 (by omega), ha j (by omega) z3]; exact hinj i j z1 z2 z3) (fun p z1 z2 => by
          obtain ⟨i, y1, y2, y3⟩ := hfull p z1 z2
          exact ⟨i, y1, y2, by rw [ha i y1 y2]; exact y3⟩) (fun p q z => interf_sym z) (fun k z1 z2 => LI_c (fun i y1 y2 => ha i y1 (by omega)) z1 (i6 k z1 z2)) (fun s z1 z2 => by
          obtain ⟨y1, y2, y3⟩ := hBd s z1 z2
          exact ⟨y2.1, y2.2.1, by rw [ha _ y2.1 y2.2.1]; exact y2.2.2⟩) (fun i z1 z2 z3 => by
          rw [ha i z1 z2] at z3 ⊢
          have y0 := hr i z1 z2
          obtain ⟨y1, y2, y3⟩ := hBd (r i / 2) (by omega) (by omega)
          obtain ⟨j, j1, j2, j3⟩ := (hok i z1 z2).2.2.1 z3
          refine Int.not_le.mp (fun z => ?_)
          exact hinj j (arS (r i / 2)) j1 (by omega) y2.2.1 (by rw [j3, y2.2.2]; omega)) (fun s z1 z2 => ju3 s z1 z2) je2
        by_cases hV : V
        · have eV : V = True := propext ⟨fun _ => trivial, fun _ => hV⟩
          subst eV
          obtain ⟨_, v2, v3⟩ := hE1.resolve_left (fun z => z.1 trivial)
          refine ⟨0, u1, t1, x1, y1, lu, gu, Or.inr ⟨hgo, Or.inr ⟨u1, rfl, Or.inr ⟨rfl, rfl, (hSC u1 _).mp v2, fun w hw p z1 z2 => ?_⟩⟩⟩, fun _ => ⟨hu, hbb trivial⟩, by omega, ?_⟩
          · obtain ⟨y1, y2, y3⟩ := posP_ok (r := arR) (R := R) (p := p) (by
              obtain ⟨i, q1, q2, q3⟩ := hfull p z1 z2
              exact ⟨i, q1, q2, by rw [ha i q1 q2]; exact q3⟩)
            have := v3 w ((hSC u1 w).mpr hw) _ y1 y2
            rw [y3] at this
            exact this
          · refine Cg.of (Nat.le_of_ble_eq_true rfl) ?_
            change Rg _ _ _ _ 0 [(0, .ref 49), (1, .ref 6)] [] _ _ _
            refine Rg.step 1 F_Arranger_findLateFault_0 rfl (fun _ => rfl) ?_
            refine Rg.step 2 F_Arranger_findLateFault_1 rfl (fun _ => rfl) ?_
            refine Rg.put 5 F_Arranger_findLateFault_2 rfl rF_13_112 gC_49 (by decide) (Nat.le_of_ble_eq_true rfl) (Or.inl rfl) rfl sO_arF ?_
            refine Rg.step 6 F_Arranger_findLateFault_5 rfl (fun _ => rfl) ?_
            refine Rg.step 7 F_Arranger_findLateFault_6 rfl (fun _ => rfl) ?_
            refine Rg.getf 10 F_Arranger_findLateFault_7 rfl rF_13_11 gC_49 rfl ?_
            refine Rg.step 11 F_Arranger_findLateFault_10 rfl (fun _ => rfl) ?_
            refine Rg.getf 14 F_Arranger_findLateFault_11 rfl rF_13_64 gC_49 rfl ?_
            refine Rg.aald 15 F_Arranger_findLateFault_14 rfl gC_50 (ix_iI (by omega)) (gStates hk0) ?_
            refine Rg.call 18 F_Arranger_findLateFault_15 rfl (one_V rM_13_138 (by decide) (by simp) rfl rfl gC_6 rfl) (Nat.le_of_ble_eq_true rfl) (Cg.any (c_Task_isGoalMet hw hT hF hH hgN hgD (gS_State hk0) (gF_st hk0) wN)) ?_
            refine Rg.ifneP 24 21 F_Arranger_findLateFault_18 rfl rfl (fun _ => ?_) (fun h18 => absurd hgo h18)
            refine Rg.step 25 F_Arranger_findLateFault_24 rfl (fun _ => rfl) ?_
            refine Rg.step 26 F_Arranger_findLateFault_25 rfl (fun _ => rfl) ?_
            refine Rg.call 29 F_Arranger_findLateFault_26 rfl (one_V rM_13_142 (by decide) (by simp) rfl rfl gC_49 rfl) (Nat.le_of_ble_eq_true rfl) hcu ?_
            refine Rg.ifneP 35 32 F_Arranger_findLateFault_29 rfl rfl (fun _ => ?_) (fun h29 => absurd hY h29)
            refine Rg.step 36 F_Arranger_findLateFault_35 rfl (fun _ => rfl) ?_
            refine Rg.step 37 F_Arranger_findLateFault_36 rfl (fun _ => rfl) ?_
            refine Rg.call 40 F_Arranger_findLateFault_37 rfl (one_V rM_13_146 (by decide) (by simp) rfl rfl gC_49 rfl) (Nat.le_of_ble_eq_true rfl) hct ?_
            refine Rg.ifeqP 47 43 F_Arranger_findLateFault_40 rfl rfl (fun h40 => absurd trivial h40) (fun _ => ?_)
            refine Rg.step 44 F_Arranger_findLateFault_43 rfl (fun _ => rfl) ?_
            refine Rg.step 49 F_Arranger_findLateFault_44 rfl (fun _ => rfl) ?_
            exact Rg.retI F_Arranger_findLateFault_49 rfl rfl rfl
        · have eV : V = False := propext ⟨hV, False.elim⟩
          subst eV
          have v2 := (hE1.resolve_right (fun z => z.1)).2
          refine ⟨7, u1, t1, x1, y1, lu, gu, Or.inr ⟨hgo, Or.inr ⟨u1, rfl, Or.inl ⟨rfl, fun ⟨w, hw⟩ => v2 ⟨w, (hSC u1 w).mpr hw⟩⟩⟩⟩, fun z => absurd z (by omega), by omega, ?_⟩
          refine Cg.of (Nat.le_of_ble_eq_true rfl) ?_
          change Rg _ _ _ _ 0 [(0, .ref 49), (1, .ref 6)] [] _ _ _
          refine Rg.step 1 F_Arranger_findLateFault_0 rfl (fun _ => rfl) ?_
          refine Rg.step 2 F_Arranger_findLateFault_1 rfl (fun _ => rfl) ?_
          refine Rg.put 5 F_Arranger_findLateFault_2 rfl rF_13_112 gC_49 (by decide) (Nat.le_of_ble_eq_true rfl) (Or.inl rfl) rfl sO_arF ?_
          refine Rg.step 6 F_Arranger_findLateFault_5 rfl (fun _ => rfl) ?_
          refine Rg.step 7 F_Arranger_findLateFault_6 rfl (fun _ => rfl) ?_
          refine Rg.getf 10 F_Arranger_findLateFault_7 rfl rF_13_11 gC_49 rfl ?_
          refine Rg.step 11 F_Arranger_findLateFault_10 rfl (fun _ => rfl) ?_
          refine Rg.getf 14 F_Arranger_findLateFault_11 rfl rF_13_64 gC_49 rfl ?_
          refine Rg.aald 15 F_Arranger_findLateFault_14 rfl gC_50 (ix_iI (by omega)) (gStates hk0) ?_
          refine Rg.call 18 F_Arranger_findLateFault_15 rfl (one_V rM_13_138 (by decide) (by simp) rfl rfl gC_6 rfl) (Nat.le_of_ble_eq_true rfl) (Cg.any (c_Task_isGoalMet hw hT hF hH hgN hgD (gS_State hk0) (gF_st hk0) wN)) ?_
          refine Rg.ifneP 24 21 F_Arranger_findLateFault_18 rfl rfl (fun _ => ?_) (fun h18 => absurd hgo h18)
          refine Rg.step 25 F_Arranger_findLateFault_24 rfl (fun _ => rfl) ?_
          refine Rg.step 26 F_Arranger_findLateFault_25 rfl (fun _ => rfl) ?_
          refine Rg.call 29 F_Arranger_findLateFault_26 rfl (one_V rM_13_142 (by decide) (by simp) rfl rfl gC_49 rfl) (Nat.le_of_ble_eq_true rfl) hcu ?_
          refine Rg.ifneP 35 32 F_Arranger_findLateFault_29 rfl rfl (fun _ => ?_) (fun h29 => absurd hY h29)
          refine Rg.step 36 F_Arranger_findLateFault_35 rfl (fun _ => rfl) ?_
          refine Rg.step 37 F_Arranger_findLateFault_36 rfl (fun _ => rfl) ?_
          refine Rg.call 40 F_Arranger_findLateFault_37 rfl (one_V rM_13_146 (by decide) (by simp) rfl rfl gC_49 rfl) (Nat.le_of_ble_eq_true rfl) hct ?_
          refine Rg.ifeqP 47 43 F_Arranger_findLateFault_40 rfl rfl (fun _ => ?_) (fun h40 => absurd h40 (fun z => z))
          refine Rg.bip 49 F_Arranger_findLateFault_47 rfl rfl ?_
          exact Rg.retI F_Arranger_findLateFault_49 rfl rfl rfl
  · refine ⟨6, arU, arT, shN, shD, arLU, arGU, Or.inl ⟨rfl, hgo⟩, fun z => absurd z (by omega), by omega, ?_⟩
    refine Cg.of (Nat.le_of_ble_eq_true rfl) ?_
    change Rg _ _ _ _ 0 [(0, .ref 49), (1, .ref 6)] [] _ _ _
    refine Rg.step 1 F_Arranger_findLateFault_0 rfl (fun _ => rfl) ?_
    refine Rg.step 2 F_Arranger_findLateFault_1 rfl (fun _ => rfl) ?_
    refine Rg.put 5 F_Arranger_findLateFault_2 rfl rF_13_112 gC_49 (by decide) (Nat.le_of_ble_eq_true rfl) (Or.inl rfl) rfl sO_arF ?_
    refine Rg.step 6 F_Arranger_findLateFault_5 rfl (fun _ => rfl) ?_
    refine Rg.step 7 F_Arranger_findLateFault_6 rfl (fun _ => rfl) ?_
    refine Rg.getf 10 F_Arranger_findLateFault_7 rfl rF_13_11 gC_49 rfl ?_
    refine Rg.step 11 F_Arranger_findLateFault_10 rfl (fun _ => rfl) ?_
    refine Rg.getf 14 F_Arranger_findLateFault_11 rfl rF_13_64 gC_49 rfl ?_
    refine Rg.aald 15 F_Arranger_findLateFault_14 rfl gC_50 (ix_iI (by omega)) (gStates hk0) ?_
    refine Rg.call 18 F_Arranger_findLateFault_15 rfl (one_V rM_13_138 (by decide) (by simp) rfl rfl gC_6 rfl) (Nat.le_of_ble_eq_true rfl) (Cg.any (c_Task_isGoalMet hw hT hF hH hgN hgD (gS_State hk0) (gF_st hk0) wN)) ?_
    refine Rg.ifneP 24 21 F_Arranger_findLateFault_18 rfl rfl (fun h18 => absurd h18 hgo) (fun _ => ?_)
    refine Rg.bip 23 F_Arranger_findLateFault_21 rfl rfl ?_
    exact Rg.retI F_Arranger_findLateFault_23 rfl rfl rfl
end R78
