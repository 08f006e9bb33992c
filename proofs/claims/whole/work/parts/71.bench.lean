/-! The class: judging. -/
theorem chAll_WN {changeTime changeOf changeHow changeN changeD : Int → Int} {t : Int} : ∀ (n : Nat) (k : Int) (S S1 : NS), (∀ q, k ≤ q → q < k + n → 0 < changeD q) → WN S.2.1 S.2.2 → chAll changeTime changeOf changeHow changeN changeD t n k S = some S1 → WN S1.2.1 S1.2.2 := by
  intro n
  induction n with
  | zero =>
    intro k S S1 _ hw h
    rw [chAll] at h
    cases h
    exact hw
  | succ n ih =>
    intro k S S1 hd hw h
    obtain ⟨F, N, D⟩ := S
    rw [chAll] at h
    have hd1 : ∀ q, k + 1 ≤ q → q < k + 1 + n → 0 < changeD q := fun q z1 z2 => hd q (by omega) (by omega)
    split at h
    · split at h
      · exact ih (k + 1) (up1 F (changeOf k) (changeHow k = 11), N, D) S1 hd1 hw h
      · split at h
        · cases h
        · rename_i hL
          refine ih (k + 1) _ S1 hd1 (fun q => ?_) h
          dsimp only
          by_cases hq : q = changeOf k
          · rw [hq, up1_eq, up1_eq]
            have hr : 0 < rawD (changeHow k) (D (changeOf k)) (changeD k) := by
              unfold rawD
              have h1 := hd k (by omega) (by omega)
              have h2 := (hw (changeOf k)).2.2.1
              split
              · exact h1
              · exact Int.mul_pos h2 h1
            have h3 := nD_pos (n := rawN (changeHow k) (N (changeOf k)) (D (changeOf k)) (changeN k) (changeD k)) hr
            unfold longP at hL
            unfold altN altD at hL ⊢
            dsimp only at hL
            omega
          · rw [up1_ne _ _ hq, up1_ne _ _ hq]
            exact hw q
    · exact ih (k + 1) _ S1 hd1 hw h
theorem grp_split {o : Int → Int} {f to p : Int} (h0 : 0 ≤ f) (h : f ≤ to) : grp o 0 to p ↔ grp o 0 f p ∨ grp o f to p := by
  constructor
  · rintro ⟨i, i1, i2, i3⟩
    by_cases hi : i < f
    · exact Or.inl ⟨i, i1, hi, i3⟩
    · exact Or.inr ⟨i, by omega, i2, i3⟩
  · rintro (⟨i, i1, i2, i3⟩ | ⟨i, i1, i2, i3⟩)
    · exact ⟨i, i1, by omega, i3⟩
    · exact ⟨i, by omega, i2, i3⟩
/-- the first place that was found is the lowest point -/
theorem fnd_low {o : Int → Int} {f to r : Int} {B W : Int → Prop} (hasc : ∀ i j, f ≤ i → i < j → j < to → o i < o j) (hr0 : ∀ i, f ≤ i → i < to → 0 ≤ o i) (hiff : ∀ k, f ≤ k → k < to → (W (o k) ↔ B k)) (h : (r = -1 ∧ ∀ i, f ≤ i → i < to → ¬ B i) ∨ (∃ h, f ≤ h ∧ h < to ∧ B h ∧ (∀ i, f ≤ i → i < h → ¬ B i) ∧ r = o h)) : (r = -1 ∧ ∀ q, grp o f to q → ¬ W q) ∨ (0 ≤ r ∧ grp o f to r ∧ W r ∧ ∀ q, q < r → grp o f to q → ¬ W q) := by
  rcases h with ⟨h1, h2⟩ | ⟨h, h1, h2, h3, h4, h5⟩
  · refine Or.inl ⟨h1, ?_⟩
    rintro q ⟨i, i1, i2, rfl⟩ z
    exact h2 i i1 i2 ((hiff i i1 i2).mp z)
  · subst h5
    refine Or.inr ⟨hr0 h h1 h2, ⟨h, h1, h2, rfl⟩, (hiff h h1 h2).mpr h3, ?_⟩
    rintro q hq ⟨i, i1, i2, rfl⟩ z
    have hi : i < h := by
      refine Int.not_le.mp (fun y => ?_)
      by_cases e : h = i
      · rw [e] at hq; omega
      · have := hasc h i h1 (by omega) i2
        omega
    exact h4 i i1 hi ((hiff i i1 i2).mp z)
theorem near_same {tN tD : Int → Int} {p q eN eD : Int} (hq : 0 < tD q) (heN : 0 < eN) (heD : 0 < eD) (hp : 0 < tD p) (h1 : leP tN tD p q) : nearP eN eD tN tD p q := by
  unfold nearP leP leF at *
  unfold cmpF
  have e1 : (tN q * eD + eN * tD q) * tD p = tN q * tD p * eD + eN * (tD q * tD p) := by
    rw [Int.add_mul, Int.mul_assoc, Int.mul_comm eD, ← Int.mul_assoc, Int.mul_assoc eN]
  have e2 : tN p * (tD q * eD) = tN p * tD q * eD := by rw [Int.mul_assoc]
  have h2 : tN p * tD q * eD ≤ tN q * tD p * eD := Int.mul_le_mul_of_nonneg_right h1 (by omega)
  have h3 : 0 < eN * (tD q * tD p) := Int.mul_pos heN (Int.mul_pos hq hp)
  rw [e1, e2, if_neg (by omega), if_neg (by omega)]
  omega
theorem dist_grp {tN tD : Int → Int} {I : Int → Int → Prop} {o : Int → Int} {m f to eN eD k : Int} (hs : Srt tN tD o m) (hD : ∀ p, 0 ≤ p → p < m → 0 < tD p) (h0 : 0 ≤ f) (h2 : to ≤ m) (he : ∀ i, f ≤ i → i < to → leP tN tD (o i) (o f)) (heN : 0 < eN) (heD : 0 < eD) (hk : f ≤ k) (hk2 : k < to) : distP I eN eD tN tD m (grp o f to) (grp o 0 f) (o k) ↔ ∃ j, 0 ≤ j ∧ j < to ∧ ¬ j = k ∧ (I (o k) (o j) ∧ nearP eN eD tN tD (o k) (o j)) := by
  have bd : ∀ i, 0 ≤ i → i < m → 0 ≤ o i ∧ o i < m := fun i z1 z2 => hs.1 i z1 z2
  constructor
  · rintro ⟨q, q1, q2, q3, q4, q5, q6⟩
    have hj : ∃ j, 0 ≤ j ∧ j < to ∧ o j = q := by
      rcases q4 with ⟨j, j1, j2, j3⟩ | ⟨j, j1, j2, j3⟩
      · exact ⟨j, by omega, j2, j3⟩
      · exact ⟨j, j1, by omega, j3⟩
    obtain ⟨j, j1, j2, rfl⟩ := hj
    refine ⟨j, j1, j2, fun z => q3 (by rw [z]), q6, ?_⟩
    rcases q5 with ⟨i, i1, i2, i3⟩ | q5
    · have bk := bd k (by omega) (by omega)
      have bj := bd j j1 (by omega)
      have bf := bd f h0 (by omega)
      have l1 : leP tN tD (o f) (o j) := by
        rw [← i3]
        by_cases e : f = i
        · rw [e]; exact leF_refl _ _
        · exact (hs.2 f i h0 (by omega) (by omega)).1
      exact near_same (hD _ bj.1 bj.2) heN heD (hD _ bk.1 bk.2) (leP_tr (hD _ bk.1 bk.2) (hD _ bf.1 bf.2) (hD _ bj.1 bj.2) (he k hk hk2) l1)
    · exact q5
  · rintro ⟨j, j1, j2, j3, j4, j5⟩
    have bj := bd j j1 (by omega)
    refine ⟨o j, bj.1, bj.2, fun z => ?_, ?_, Or.inr j5, j4⟩
    · by_cases h : j < k
      · exact hs.inj j k j1 h (by omega) z
      · exact hs.inj k j (by omega) (by omega) (by omega) z.symm
    · by_cases h : j < f
      · exact Or.inr ⟨j, j1, h, rfl⟩
      · exact Or.inl ⟨j, by omega, j2, rfl⟩
theorem pt_lt {steps : Int} {startN startD lengthN lengthD : Int → Int} (h : WPL steps startN startD lengthN lengthD) {s : Int} (h1 : 0 ≤ s) (h2 : s < steps) : ¬ leP (ptN startN startD lengthN lengthD) (ptD startN startD lengthN lengthD) (2 * s + 1) (2 * s) := by
  obtain ⟨⟨a1, a2, a3, a4, a5, a6, a7, a8⟩, -, -⟩ := h s h1 h2
  unfold leP
  have hD : 0 < startD s * lengthD s := Int.mul_pos a3 a7
  rw [← cmpF_le]
  unfold ptN ptD
  rw [if_neg (by omega), if_neg (by omega), if_pos (by omega), if_pos (by omega), show (2 * s + 1) / 2 = s by omega, show 2 * s / 2 = s by omega, cmpF_red hD, cmpF_le]
  unfold leF
  have e1 : (startN s * lengthD s + lengthN s * startD s) * startD s = startN s * (startD s * lengthD s) + lengthN s * startD s * startD s := by
    rw [Int.add_mul, Int.mul_assoc, Int.mul_comm (lengthD s)]
  have e2 : 0 < lengthN s * startD s * startD s := Int.mul_pos (Int.mul_pos a5 a3) a3
  omega

section R71
variable {s0 s1 : AC} {rest : AM} {ab : Int → Nat}
variable {alS alM plS plP veW veF veP juP arP arB arU arF : Int}
variable {handN handD fiN fiD epN epD goH goN goD plA plBN plBD plLN plLD plR vsN vsD juTN juTD juO scN scD noN noD neN neD arR arL arT arA arS leN leD grN grD arLU arGU shN shD : Int → Int}
variable {stN stD : Int → Int → Int}
variable {stF : Int → Int → Prop}
variable {gT gF fiF plM vsF juM noF neF arM arH : Int → Prop}
variable {alE : Nat}
variable {code amountN amountD momentN momentD epsilonN epsilonD actions steps rows tried triedRows unit point judged fault faultPoint outN outD : Int}
variable {firstN firstD wishes wants wantN wantD needs needTime needOf needHow needN needD changes changeTime changeOf changeHow changeN changeD lastOf lastN lastD stepAction startN startD lengthN lengthD row triedAction triedRow times numN numD oldN oldD toldN toldD pointN pointD leastN leastD greatestN greatestD events : Int → Int}
variable {firstFacts facts oldFacts toldFacts gone now : Int → Prop}
theorem c_Ju_among {d : Nat} (hw : WT epsilonN epsilonD wishes wants wantN wantD actions needs needTime needOf needHow needN needD changes changeTime changeOf changeHow changeN changeD lastOf lastN lastD firstN firstD) (hO : ActsOK needs needTime needOf needHow needN needD changes changeTime changeOf changeHow changeN changeD lastOf lastN lastD rest alE actions ab) (hPA : ∀ s, 0 ≤ s → s < plS → 0 ≤ plA s ∧ plA s < actions) (wS : 0 ≤ plS ∧ plS ≤ 12) (hQ : ∀ p, 0 ≤ p → p < 2 * plS → 0 ≤ juTN p ∧ juTN p ≤ 100000000000 ∧ 0 < juTD p ∧ juTD p ≤ 1000000) (hE : epN 0 = epsilonN ∧ epD 0 = epsilonD) (hlen : ∀ s, 0 ≤ s → s < plS → 0 < plLN s ∧ plLN s ≤ 100000000000 ∧ 0 < plLD s ∧ plLD s ≤ 1000000) (hs : Srt juTN juTD juO (2 * plS)) (hlt : ∀ s, 0 ≤ s → s < plS → ¬ leP juTN juTD (2 * s + 1) (2 * s)) {f to : Int} (h0 : 0 ≤ f) (h1 : f < to) (h2 : to ≤ 2 * plS) (he : ∀ i, f ≤ i → i < to → leP juTN juTD (juO i) (juO f)) (wN : WN noN noD) (hM : OpnI juO plS f juM) : ∃ (why pt jp : Int) (F1 : Int → Prop) (N1 D1 : Int → Int) (x1 y1 : Int → Int) (F2 : Int → Prop) (N2 D2 : Int → Int) (K1 : Int → Prop), PassR (2 * plS) (wrongR plS plA needs needTime needHow needOf needN needD lastOf lastN lastD changes changeTime changeHow changeOf epsilonN epsilonD juTN juTD plLN plLD) (fun now S => chRow plA changes changeTime changeOf changeHow changeN changeD now (2 * plS).toNat 0 S) (fun S s => fit needs needTime needOf needHow needN needD S.1 S.2.1 S.2.2 (plA s) 1) (grp juO f to) (grp juO 0 f) (noF, noN, noD) why pt (F1, N1, D1) (grp juO 0 to) ∧ WN N1 D1 ∧ (0 ≤ why ∧ why ≤ 5) ∧ (1 ≤ why → jp = pt) ∧ (why = 0 → OpnI juO plS to K1) ∧ Cg false (d + 6) m_Judge_faultAmong [.ref 33, .ref 6, .ref 19, .int (iI f), .int (iI to)] (MC s0 s1 handN handD gT gF alE actions alM fiF fiN fiD epN epD goH goN goD plS plP plM plA plBN plBD plLN plLD plR veW veF veP vsF vsN vsD juM juP juTN juTD juO scN scD noF noN noD neF neN neD arP arB arM arU arF arR arL arT arA arS leN leD grN grD arH arLU arGU shN shD stF stN stD rest) (.inl (some (.int (iI why)))) (MC s0 s1 handN handD gT gF alE actions alM fiF fiN fiD epN epD goH goN goD plS plP plM plA plBN plBD plLN plLD plR veW veF veP vsF vsN vsD K1 jp juTN juTD juO x1 y1 F1 N1 D1 F2 N2 D2 arP arB arM arU arF arR arL arT arA arS leN leD grN grD arH arLU arGU shN shD stF stN stD rest) := by
  obtain ⟨wE, -, -, -, -, -, -, -, -, -, -, wc, -, -, -, -, wcD, -, -, -, -⟩ := id hw
  have hor : ∀ i, 0 ≤ i → i < 2 * plS → 0 ≤ juO i ∧ juO i < 2 * plS := hs.1
  have hD : ∀ p, 0 ≤ p → p < 2 * plS → 0 < juTD p := fun p z1 z2 => (hQ p z1 z2).2.2.1
  have hasc : ∀ i j, f ≤ i → i < j → j < to → juO i < juO j := fun i j z1 z2 z3 => grp_asc hs h0 h2 hD he z1 z2 z3
  have hr0 : ∀ i, f ≤ i → i < to → 0 ≤ juO i := fun i z1 z2 => (hor i (by omega) (by omega)).1
  have hin : ∀ q, grp juO f to q → 0 ≤ q ∧ q < 2 * plS := by
    rintro q ⟨i, i1, i2, rfl⟩
    exact hor i (by omega) (by omega)
  have w1 : ∀ k, f ≤ k → k < to → (wrongR plS plA needs needTime needHow needOf needN needD lastOf lastN lastD changes changeTime changeHow changeOf epsilonN epsilonD juTN juTD plLN plLD (grp juO f to) (grp juO 0 f) (noF, noN, noD) 1 (juO k) ↔ (∃ j, 0 ≤ j ∧ j < to ∧ ¬ j = k ∧ (intP plA needs needTime needHow needOf lastOf changes changeTime changeHow changeOf (juO k) (juO j) ∧ nearP epsilonN epsilonD juTN juTD (juO k) (juO j)))) := fun k z1 z2 => by
    refine Iff.trans ⟨fun z => (z.resolve_right (fun y => y.elim (fun v => absurd v.1 (by omega)) (fun v => absurd v.1 (by omega)))).2, fun z => Or.inl ⟨rfl, z⟩⟩ (dist_grp hs hD h0 h2 he wE.1 wE.2.2.1 z1 z2)
  have w2 : ∀ k, f ≤ k → k < to → (wrongR plS plA needs needTime needHow needOf needN needD lastOf lastN lastD changes changeTime changeHow changeOf epsilonN epsilonD juTN juTD plLN plLD (grp juO f to) (grp juO 0 f) (noF, noN, noD) 2 (juO k) ↔ (¬ fit needs needTime needOf needHow needN needD noF noN noD (plA (juO k / 2)) (tmo (juO k)))) := fun k z1 z2 =>
    ⟨fun z => z.elim (fun y => absurd y.1 (by omega)) (fun y => y.elim (fun v => v.2) (fun v => absurd v.1 (by omega))), fun z => Or.inr (Or.inl ⟨rfl, z⟩)⟩
  have w3 : ∀ k, f ≤ k → k < to → (wrongR plS plA needs needTime needHow needOf needN needD lastOf lastN lastD changes changeTime changeHow changeOf epsilonN epsilonD juTN juTD plLN plLD (grp juO f to) (grp juO 0 f) (noF, noN, noD) 3 (juO k) ↔ (juO k % 2 = 0 ∧ ¬ lastsOK lastOf lastN lastD noN noD (plA (juO k / 2)) (plLN (juO k / 2)) (plLD (juO k / 2)))) := fun k z1 z2 =>
    ⟨fun z => z.elim (fun y => absurd y.1 (by omega)) (fun y => y.elim (fun v => absurd v.1 (by omega)) (fun v => v.2)), fun z => Or.inr (Or.inr ⟨rfl, z⟩)⟩
  have hWN : ∀ p S S1, 0 ≤ p → p < 2 * plS → WN S.2.1 S.2.2 → (fun S p => chAll changeTime changeOf changeHow changeN changeD (tmo p) (changes (plA (p / 2))).toNat (6 * plA (p / 2)) S) S p = some S1 → WN S1.2.1 S1.2.2 := fun p S S1 z1 z2 z3 z4 => by
    have a1 := hPA (p / 2) (by omega) (by omega)
    exact chAll_WN _ _ S S1 (fun q y1 y2 => wcD _ q a1.1 a1.2 y1 (by have := wc (plA (p / 2)); omega)) z3 z4
  obtain ⟨r1, x1, y1, f1, c1⟩ := c_Ju_interf (d := d) (s0 := s0) (s1 := s1) (rest := rest) (handN := handN) (handD := handD) (gT := gT) (gF := gF) (alE := alE) (alM := alM) (fiF := fiF) (fiN := fiN) (fiD := fiD) (epN := epN) (epD := epD) (goH := goH) (goN := goN) (goD := goD) (plS := plS) (plP := plP) (plM := plM) (plA := plA) (plBN := plBN) (plBD := plBD) (plLN := plLN) (plLD := plLD) (plR := plR) (veW := veW) (veF := veF) (veP := veP) (vsF := vsF) (vsN := vsN) (vsD := vsD) (juM := juM) (juP := juP) (juTN := juTN) (juTD := juTD) (juO := juO) (scN := scN) (scD := scD) (noF := noF) (noN := noN) (noD := noD) (neF := neF) (neN := neN) (neD := neD) (arP := arP) (arB := arB) (arM := arM) (arU := arU) (arF := arF) (arR := arR) (arL := arL) (arT := arT) (arA := arA) (arS := arS) (leN := leN) (leD := leD) (grN := grN) (grD := grD) (arH := arH) (arLU := arLU) (arGU := arGU) (shN := shN) (shD := shD) (stF := stF) (stN := stN) (stD := stD) hw hO hPA wS hQ hE hor (f := f) (to := to) (by omega) (by omega)
  have g1 := fnd_low (W := fun q => wrongR plS plA needs needTime needHow needOf needN needD lastOf lastN lastD changes changeTime changeHow changeOf epsilonN epsilonD juTN juTD plLN plLD (grp juO f to) (grp juO 0 f) (noF, noN, noD) 1 q) hasc hr0 w1 f1
  rcases g1 with ⟨t1, n1⟩ | g1
  · subst t1
    obtain ⟨r2, f2, c2⟩ := c_Ju_need (d := d + 1) (s0 := s0) (s1 := s1) (rest := rest) (handN := handN) (handD := handD) (gT := gT) (gF := gF) (alE := alE) (alM := alM) (fiF := fiF) (fiN := fiN) (fiD := fiD) (epN := epN) (epD := epD) (goH := goH) (goN := goN) (goD := goD) (plS := plS) (plP := plP) (plM := plM) (plA := plA) (plBN := plBN) (plBD := plBD) (plLN := plLN) (plLD := plLD) (plR := plR) (veW := veW) (veF := veF) (veP := veP) (vsF := vsF) (vsN := vsN) (vsD := vsD) (juM := juM) (juP := (-1)) (juTN := juTN) (juTD := juTD) (juO := juO) (scN := x1) (scD := y1) (noF := noF) (noN := noN) (noD := noD) (neF := neF) (neN := neN) (neD := neD) (arP := arP) (arB := arB) (arM := arM) (arU := arU) (arF := arF) (arR := arR) (arL := arL) (arT := arT) (arA := arA) (arS := arS) (leN := leN) (leD := leD) (grN := grN) (grD := grD) (arH := arH) (arLU := arLU) (arGU := arGU) (shN := shN) (shD := shD) (stF := stF) (stN := stN) (stD := stD) hw hO hPA wS hor wN (f := f) (to := to) (by omega) (by omega)
    have g2 := fnd_low (W := fun q => wrongR plS plA needs needTime needHow needOf needN needD lastOf lastN lastD changes changeTime changeHow changeOf epsilonN epsilonD juTN juTD plLN plLD (grp juO f to) (grp juO 0 f) (noF, noN, noD) 2 q) hasc hr0 w2 f2
    rcases g2 with ⟨t2, n2⟩ | g2
    · subst t2
      obtain ⟨r3, x3, y3, f3, c3⟩ := c_Ju_dur (d := d) (s0 := s0) (s1 := s1) (rest := rest) (handN := handN) (handD := handD) (gT := gT) (gF := gF) (alE := alE) (alM := alM) (fiF := fiF) (fiN := fiN) (fiD := fiD) (epN := epN) (epD := epD) (goH := goH) (goN := goN) (goD := goD) (plS := plS) (plP := plP) (plM := plM) (plA := plA) (plBN := plBN) (plBD := plBD) (plLN := plLN) (plLD := plLD) (plR := plR) (veW := veW) (veF := veF) (veP := veP) (vsF := vsF) (vsN := vsN) (vsD := vsD) (juM := juM) (juP := (-1)) (juTN := juTN) (juTD := juTD) (juO := juO) (scN := x1) (scD := y1) (noF := noF) (noN := noN) (noD := noD) (neF := neF) (neN := neN) (neD := neD) (arP := arP) (arB := arB) (arM := arM) (arU := arU) (arF := arF) (arR := arR) (arL := arL) (arT := arT) (arA := arA) (arS := arS) (leN := leN) (leD := leD) (grN := grN) (grD := grD) (arH := arH) (arLU := arLU) (arGU := arGU) (shN := shN) (shD := shD) (stF := stF) (stN := stN) (stD := stD) hw hO hPA wS hor wN hlen (f := f) (to := to) (by omega) (by omega)
      have g3 := fnd_low (W := fun q => wrongR plS plA needs needTime needHow needOf needN needD lastOf lastN lastD changes changeTime changeHow changeOf epsilonN epsilonD juTN juTD plLN plLD (grp juO f to) (grp juO 0 f) (noF, noN, noD) 3 q) hasc hr0 w3 f3
      rcases g3 with ⟨t3, n3⟩ | g3
      · subst t3
        have nw : ∀ w q, 1 ≤ w → w ≤ 3 → 0 ≤ q → q < 2 * plS → (grp juO f to) q → ¬ wrongR plS plA needs needTime needHow needOf needN needD lastOf lastN lastD changes changeTime changeHow changeOf epsilonN epsilonD juTN juTD plLN plLD (grp juO f to) (grp juO 0 f) (noF, noN, noD) w q := by
          intro v q z1 z2 z3 z4 z5
          have hv : v = 1 ∨ v = 2 ∨ v = 3 := by omega
          rcases hv with rfl | rfl | rfl
          · exact n1 q z5
          · exact n2 q z5
          · exact n3 q z5
        have hseq := chRow_seq (triedAction := plA) (changes := changes) (changeTime := changeTime) (changeOf := changeOf) (changeHow := changeHow) (changeN := changeN) (changeD := changeD) (o := juO) (f := f) (to := to) (m := 2 * plS) hasc (fun i z1 z2 => hor i (by omega) (by omega)) (2 * plS).toNat 0 f (noF, noN, noD) (by omega) (by omega) (by omega) (by omega) (fun i z1 z2 => by omega) (fun i z1 z2 => hr0 i z1 z2)
        obtain ⟨r4, F4, N4, D4, K4, j4, c4⟩ := c_Ju_doChanges (d := d + 1) (s0 := s0) (s1 := s1) (rest := rest) (handN := handN) (handD := handD) (gT := gT) (gF := gF) (alE := alE) (alM := alM) (fiF := fiF) (fiN := fiN) (fiD := fiD) (epN := epN) (epD := epD) (goH := goH) (goN := goN) (goD := goD) (plS := plS) (plP := plP) (plM := plM) (plA := plA) (plBN := plBN) (plBD := plBD) (plLN := plLN) (plLD := plLD) (plR := plR) (veW := veW) (veF := veF) (veP := veP) (vsF := vsF) (vsN := vsN) (vsD := vsD) (juM := juM) (juP := (-1)) (juTN := juTN) (juTD := juTD) (juO := juO) (scN := x3) (scD := y3) (noF := noF) (noN := noN) (noD := noD) (neF := neF) (neN := neN) (neD := neD) (arP := arP) (arB := arB) (arM := arM) (arU := arU) (arF := arF) (arR := arR) (arL := arL) (arT := arT) (arA := arA) (arS := arS) (leN := leN) (leD := leD) (grN := grN) (grD := grD) (arH := arH) (arLU := arLU) (arGU := arGU) (shN := shN) (shD := shD) (stF := stF) (stN := stN) (stD := stD) hw hO hPA wS hs hlt h2 hWN (f := f) (by omega) wN hM
        rcases j4 with ⟨p4, j4, e4, z4⟩ | ⟨j4, e4, w4, k4⟩
        · subst e4
          refine ⟨4, r4, r4, noF, noN, noD, x3, y3, F4, N4, D4, K4, Or.inr ⟨nw, Or.inl ⟨rfl, hseq.trans j4, rfl⟩⟩, wN, by omega, fun _ => rfl, fun z => absurd z (by omega), ?_⟩
          refine Cg.of (Nat.le_of_ble_eq_true rfl) ?_
          change Rg _ _ _ _ 0 [(0, .ref 33), (1, .ref 6), (2, .ref 19), (3, .int (iI f)), (4, .int (iI to))] [] _ _ _
          refine Rg.step 1 F_Judge_faultAmong_0 rfl (fun _ => rfl) ?_
          refine Rg.step 2 F_Judge_faultAmong_1 rfl (fun _ => rfl) ?_
          refine Rg.step 3 F_Judge_faultAmong_2 rfl (fun _ => rfl) ?_
          refine Rg.step 4 F_Judge_faultAmong_3 rfl (fun _ => rfl) ?_
          refine Rg.step 5 F_Judge_faultAmong_4 rfl (fun _ => rfl) ?_
          refine Rg.step 7 F_Judge_faultAmong_5 rfl (fun _ => rfl) ?_
          refine Rg.call 10 F_Judge_faultAmong_7 rfl (one_V rM_12_92 (by decide) (by simp) rfl rfl gC_33 rfl) (Nat.le_of_ble_eq_true rfl) c1 ?_
          refine Rg.put 13 F_Judge_faultAmong_10 rfl rF_12_67 gC_33 (by decide) (Nat.le_of_ble_eq_true rfl) (Or.inl rfl) rfl sO_juP ?_
          refine Rg.step 14 F_Judge_faultAmong_13 rfl (fun _ => rfl) ?_
          refine Rg.getf 17 F_Judge_faultAmong_14 rfl rF_12_67 gC_33 rfl ?_
          refine Rg.step 18 F_Judge_faultAmong_17 rfl (fun _ => rfl) ?_
          refine Rg.iceqI 23 21 F_Judge_faultAmong_18 rfl rfl (by omega) (by omega) (fun _ => ?_) (fun h18 => absurd rfl h18)
          refine Rg.step 24 F_Judge_faultAmong_23 rfl (fun _ => rfl) ?_
          refine Rg.step 25 F_Judge_faultAmong_24 rfl (fun _ => rfl) ?_
          refine Rg.step 26 F_Judge_faultAmong_25 rfl (fun _ => rfl) ?_
          refine Rg.step 27 F_Judge_faultAmong_26 rfl (fun _ => rfl) ?_
          refine Rg.step 28 F_Judge_faultAmong_27 rfl (fun _ => rfl) ?_
          refine Rg.step 30 F_Judge_faultAmong_28 rfl (fun _ => rfl) ?_
          refine Rg.call 33 F_Judge_faultAmong_30 rfl (one_V rM_12_95 (by decide) (by simp) rfl rfl gC_33 rfl) (Nat.le_of_ble_eq_true rfl) (Cg.any c2) ?_
          refine Rg.put 36 F_Judge_faultAmong_33 rfl rF_12_67 gC_33 (by decide) (Nat.le_of_ble_eq_true rfl) (Or.inl rfl) rfl sO_juP ?_
          refine Rg.step 37 F_Judge_faultAmong_36 rfl (fun _ => rfl) ?_
          refine Rg.getf 40 F_Judge_faultAmong_37 rfl rF_12_67 gC_33 rfl ?_
          refine Rg.step 41 F_Judge_faultAmong_40 rfl (fun _ => rfl) ?_
          refine Rg.iceqI 46 44 F_Judge_faultAmong_41 rfl rfl (by omega) (by omega) (fun _ => ?_) (fun h41 => absurd rfl h41)
          refine Rg.step 47 F_Judge_faultAmong_46 rfl (fun _ => rfl) ?_
          refine Rg.step 48 F_Judge_faultAmong_47 rfl (fun _ => rfl) ?_
          refine Rg.step 49 F_Judge_faultAmong_48 rfl (fun _ => rfl) ?_
          refine Rg.step 50 F_Judge_faultAmong_49 rfl (fun _ => rfl) ?_
          refine Rg.step 51 F_Judge_faultAmong_50 rfl (fun _ => rfl) ?_
          refine Rg.step 53 F_Judge_faultAmong_51 rfl (fun _ => rfl) ?_
          refine Rg.call 56 F_Judge_faultAmong_53 rfl (one_V rM_12_98 (by decide) (by simp) rfl rfl gC_33 rfl) (Nat.le_of_ble_eq_true rfl) c3 ?_
          refine Rg.put 59 F_Judge_faultAmong_56 rfl rF_12_67 gC_33 (by decide) (Nat.le_of_ble_eq_true rfl) (Or.inl rfl) rfl sO_juP ?_
          refine Rg.step 60 F_Judge_faultAmong_59 rfl (fun _ => rfl) ?_
          refine Rg.getf 63 F_Judge_faultAmong_60 rfl rF_12_67 gC_33 rfl ?_
          refine Rg.step 64 F_Judge_faultAmong_63 rfl (fun _ => rfl) ?_
          refine Rg.iceqI 69 67 F_Judge_faultAmong_64 rfl rfl (by omega) (by omega) (fun _ => ?_) (fun h64 => absurd rfl h64)
          refine Rg.step 70 F_Judge_faultAmong_69 rfl (fun _ => rfl) ?_
          refine Rg.step 71 F_Judge_faultAmong_70 rfl (fun _ => rfl) ?_
          refine Rg.step 72 F_Judge_faultAmong_71 rfl (fun _ => rfl) ?_
          refine Rg.step 73 F_Judge_faultAmong_72 rfl (fun _ => rfl) ?_
          refine Rg.step 74 F_Judge_faultAmong_73 rfl (fun _ => rfl) ?_
          refine Rg.step 76 F_Judge_faultAmong_74 rfl (fun _ => rfl) ?_
          refine Rg.call 79 F_Judge_faultAmong_76 rfl (one_V rM_12_101 (by decide) (by simp) rfl rfl gC_33 rfl) (Nat.le_of_ble_eq_true rfl) c4 ?_
          refine Rg.put 82 F_Judge_faultAmong_79 rfl rF_12_67 gC_33 (by decide) (Nat.le_of_ble_eq_true rfl) (Or.inl rfl) rfl sO_juP ?_
          refine Rg.step 83 F_Judge_faultAmong_82 rfl (fun _ => rfl) ?_
          refine Rg.getf 86 F_Judge_faultAmong_83 rfl rF_12_67 gC_33 rfl ?_
          refine Rg.step 87 F_Judge_faultAmong_86 rfl (fun _ => rfl) ?_
          refine Rg.iceqI 92 90 F_Judge_faultAmong_87 rfl rfl (by omega) (by omega) (fun h87 => by omega) (fun _ => ?_)
          refine Rg.step 91 F_Judge_faultAmong_90 rfl (fun _ => rfl) ?_
          exact Rg.retI F_Judge_faultAmong_91 rfl rfl rfl
        · subst e4
          have hcf := c_State_copyFrom (d := d + 4) (mem := (MC s0 s1 handN handD gT gF alE actions alM fiF fiN fiD epN epD goH goN goD plS plP plM plA plBN plBD plLN plLD plR veW veF veP vsF vsN vsD K4 (-1) juTN juTD juO x3 y3 noF noN noD F4 N4 D4 arP arB arM arU arF arR arL arT arA arS leN leD grN grD arH arLU arGU shN shD stF stN stD rest)) gC_41 gF_no gC_45 gF_ne (by decide) (by decide) (by decide)
          have e1 : stS (MC s0 s1 handN handD gT gF alE actions alM fiF fiN fiD epN epD goH goN goD plS plP plM plA plBN plBD plLN plLD plR veW veF veP vsF vsN vsD K4 (-1) juTN juTD juO x3 y3 noF noN noD F4 N4 D4 arP arB arM arU arF arR arL arT arA arS leN leD grN grD arH arLU arGU shN shD stF stN stD rest) 41 42 43 44 F4 N4 D4 = (MC s0 s1 handN handD gT gF alE actions alM fiF fiN fiD epN epD goH goN goD plS plP plM plA plBN plBD plLN plLD plR veW veF veP vsF vsN vsD K4 (-1) juTN juTD juO x3 y3 F4 N4 D4 F4 N4 D4 arP arB arM arU arF arR arL arT arA arS leN leD grN grD arH arLU arGU shN shD stF stN stD rest) := by
            unfold stS
            rw [sF_no]
            exact sO_noF
          rw [e1] at hcf
          obtain ⟨r5, f5, c5⟩ := c_Ju_all (d := d + 1) (s0 := s0) (s1 := s1) (rest := rest) (handN := handN) (handD := handD) (gT := gT) (gF := gF) (alE := alE) (alM := alM) (fiF := fiF) (fiN := fiN) (fiD := fiD) (epN := epN) (epD := epD) (goH := goH) (goN := goN) (goD := goD) (plS := plS) (plP := plP) (plM := plM) (plA := plA) (plBN := plBN) (plBD := plBD) (plLN := plLN) (plLD := plLD) (plR := plR) (veW := veW) (veF := veF) (veP := veP) (vsF := vsF) (vsN := vsN) (vsD := vsD) (juM := K4) (juP := (-1)) (juTN := juTN) (juTD := juTD) (juO := juO) (scN := x3) (scD := y3) (noF := F4) (noN := N4) (noD := D4) (neF := F4) (neN := N4) (neD := D4) (arP := arP) (arB := arB) (arM := arM) (arU := arU) (arF := arF) (arR := arR) (arL := arL) (arT := arT) (arA := arA) (arS := arS) (leN := leN) (leD := leD) (grN := grN) (grD := grD) (arH := arH) (arLU := arLU) (arGU := arGU) (shN := shN) (shD := shD) (stF := stF) (stN := stN) (stD := stD) hw hO hPA wS w4
          rcases f5 with ⟨t5, n5⟩ | ⟨s, s1, s2, s3, s4, s5⟩
          · subst t5
            refine ⟨0, -1, -1, F4, N4, D4, x3, y3, F4, N4, D4, K4, Or.inr ⟨nw, Or.inr ⟨hseq.trans j4, fun p z1 z2 => grp_split h0 (by omega), Or.inr ⟨rfl, fun r z1 z2 z3 => n5 r z1 (by omega) ⟨(k4 r z1 (by omega)).mpr ⟨z3.1, z3.2.1⟩, z3.2.2⟩⟩⟩⟩, w4, by omega, fun z => absurd z (by omega), fun _ => k4, ?_⟩
            refine Cg.of (Nat.le_of_ble_eq_true rfl) ?_
            change Rg _ _ _ _ 0 [(0, .ref 33), (1, .ref 6), (2, .ref 19), (3, .int (iI f)), (4, .int (iI to))] [] _ _ _
            refine Rg.step 1 F_Judge_faultAmong_0 rfl (fun _ => rfl) ?_
            refine Rg.step 2 F_Judge_faultAmong_1 rfl (fun _ => rfl) ?_
            refine Rg.step 3 F_Judge_faultAmong_2 rfl (fun _ => rfl) ?_
            refine Rg.step 4 F_Judge_faultAmong_3 rfl (fun _ => rfl) ?_
            refine Rg.step 5 F_Judge_faultAmong_4 rfl (fun _ => rfl) ?_
            refine Rg.step 7 F_Judge_faultAmong_5 rfl (fun _ => rfl) ?_
            refine Rg.call 10 F_Judge_faultAmong_7 rfl (one_V rM_12_92 (by decide) (by simp) rfl rfl gC_33 rfl) (Nat.le_of_ble_eq_true rfl) c1 ?_
            refine Rg.put 13 F_Judge_faultAmong_10 rfl rF_12_67 gC_33 (by decide) (Nat.le_of_ble_eq_true rfl) (Or.inl rfl) rfl sO_juP ?_
            refine Rg.step 14 F_Judge_faultAmong_13 rfl (fun _ => rfl) ?_
            refine Rg.getf 17 F_Judge_faultAmong_14 rfl rF_12_67 gC_33 rfl ?_
            refine Rg.step 18 F_Judge_faultAmong_17 rfl (fun _ => rfl) ?_
            refine Rg.iceqI 23 21 F_Judge_faultAmong_18 rfl rfl (by omega) (by omega) (fun _ => ?_) (fun h18 => absurd rfl h18)
            refine Rg.step 24 F_Judge_faultAmong_23 rfl (fun _ => rfl) ?_
            refine Rg.step 25 F_Judge_faultAmong_24 rfl (fun _ => rfl) ?_
            refine Rg.step 26 F_Judge_faultAmong_25 rfl (fun _ => rfl) ?_
            refine Rg.step 27 F_Judge_faultAmong_26 rfl (fun _ => rfl) ?_
            refine Rg.step 28 F_Judge_faultAmong_27 rfl (fun _ => rfl) ?_
            refine Rg.step 30 F_Judge_faultAmong_28 rfl (fun _ => rfl) ?_
            refine Rg.call 33 F_Judge_faultAmong_30 rfl (one_V rM_12_95 (by decide) (by simp) rfl rfl gC_33 rfl) (Nat.le_of_ble_eq_true rfl) (Cg.any c2) ?_
            refine Rg.put 36 F_Judge_faultAmong_33 rfl rF_12_67 gC_33 (by decide) (Nat.le_of_ble_eq_true rfl) (Or.inl rfl) rfl sO_juP ?_
            refine Rg.step 37 F_Judge_faultAmong_36 rfl (fun _ => rfl) ?_
            refine Rg.getf 40 F_Judge_faultAmong_37 rfl rF_12_67 gC_33 rfl ?_
            refine Rg.step 41 F_Judge_faultAmong_40 rfl (fun _ => rfl) ?_
            refine Rg.iceqI 46 44 F_Judge_faultAmong_41 rfl rfl (by omega) (by omega) (fun _ => ?_) (fun h41 => absurd rfl h41)
            refine Rg.step 47 F_Judge_faultAmong_46 rfl (fun _ => rfl) ?_
            refine Rg.step 48 F_Judge_faultAmong_47 rfl (fun _ => rfl) ?_
            refine Rg.step 49 F_Judge_faultAmong_48 rfl (fun _ => rfl) ?_
            refine Rg.step 50 F_Judge_faultAmong_49 rfl (fun _ => rfl) ?_
            refine Rg.step 51 F_Judge_faultAmong_50 rfl (fun _ => rfl) ?_
            refine Rg.step 53 F_Judge_faultAmong_51 rfl (fun _ => rfl) ?_
            refine Rg.call 56 F_Judge_faultAmong_53 rfl (one_V rM_12_98 (by decide) (by simp) rfl rfl gC_33 rfl) (Nat.le_of_ble_eq_true rfl) c3 ?_
            refine Rg.put 59 F_Judge_faultAmong_56 rfl rF_12_67 gC_33 (by decide) (Nat.le_of_ble_eq_true rfl) (Or.inl rfl) rfl sO_juP ?_
            refine Rg.step 60 F_Judge_faultAmong_59 rfl (fun _ => rfl) ?_
            refine Rg.getf 63 F_Judge_faultAmong_60 rfl rF_12_67 gC_33 rfl ?_
            refine Rg.step 64 F_Judge_faultAmong_63 rfl (fun _ => rfl) ?_
            refine Rg.iceqI 69 67 F_Judge_faultAmong_64 rfl rfl (by omega) (by omega) (fun _ => ?_) (fun h64 => absurd rfl h64)
            refine Rg.step 70 F_Judge_faultAmong_69 rfl (fun _ => rfl) ?_
            refine Rg.step 71 F_Judge_faultAmong_70 rfl (fun _ => rfl) ?_
            refine Rg.step 72 F_Judge_faultAmong_71 rfl (fun _ => rfl) ?_
            refine Rg.step 73 F_Judge_faultAmong_72 rfl (fun _ => rfl) ?_
            refine Rg.step 74 F_Judge_faultAmong_73 rfl (fun _ => rfl) ?_
            refine Rg.step 76 F_Judge_faultAmong_74 rfl (fun _ => rfl) ?_
            refine Rg.call 79 F_Judge_faultAmong_76 rfl (one_V rM_12_101 (by decide) (by simp) rfl rfl gC_33 rfl) (Nat.le_of_ble_eq_true rfl) c4 ?_
            refine Rg.put 82 F_Judge_faultAmong_79 rfl rF_12_67 gC_33 (by decide) (Nat.le_of_ble_eq_true rfl) (Or.inl rfl) rfl sO_juP ?_
            refine Rg.step 83 F_Judge_faultAmong_82 rfl (fun _ => rfl) ?_
            refine Rg.getf 86 F_Judge_faultAmong_83 rfl rF_12_67 gC_33 rfl ?_
            refine Rg.step 87 F_Judge_faultAmong_86 rfl (fun _ => rfl) ?_
            refine Rg.iceqI 92 90 F_Judge_faultAmong_87 rfl rfl (by omega) (by omega) (fun _ => ?_) (fun h87 => absurd rfl h87)
            refine Rg.step 93 F_Judge_faultAmong_92 rfl (fun _ => rfl) ?_
            refine Rg.getf 96 F_Judge_faultAmong_93 rfl rF_12_30 gC_33 rfl ?_
            refine Rg.step 97 F_Judge_faultAmong_96 rfl (fun _ => rfl) ?_
            refine Rg.getf 100 F_Judge_faultAmong_97 rfl rF_12_34 gC_33 rfl ?_
            refine Rg.call 103 F_Judge_faultAmong_100 rfl (one_V rM_12_46 (by decide) (by simp) rfl rfl gC_41 rfl) (Nat.le_of_ble_eq_true rfl) hcf ?_
            refine Rg.step 104 F_Judge_faultAmong_103 rfl (fun _ => rfl) ?_
            refine Rg.step 105 F_Judge_faultAmong_104 rfl (fun _ => rfl) ?_
            refine Rg.step 106 F_Judge_faultAmong_105 rfl (fun _ => rfl) ?_
            refine Rg.step 107 F_Judge_faultAmong_106 rfl (fun _ => rfl) ?_
            refine Rg.call 110 F_Judge_faultAmong_107 rfl (one_V rM_12_104 (by decide) (by simp) rfl rfl gC_33 rfl) (Nat.le_of_ble_eq_true rfl) (Cg.any c5) ?_
            refine Rg.put 113 F_Judge_faultAmong_110 rfl rF_12_67 gC_33 (by decide) (Nat.le_of_ble_eq_true rfl) (Or.inl rfl) rfl sO_juP ?_
            refine Rg.step 114 F_Judge_faultAmong_113 rfl (fun _ => rfl) ?_
            refine Rg.getf 117 F_Judge_faultAmong_114 rfl rF_12_67 gC_33 rfl ?_
            refine Rg.step 118 F_Judge_faultAmong_117 rfl (fun _ => rfl) ?_
            refine Rg.iceqI 125 121 F_Judge_faultAmong_118 rfl rfl (by omega) (by omega) (fun _ => ?_) (fun h118 => absurd rfl h118)
            refine Rg.step 126 F_Judge_faultAmong_125 rfl (fun _ => rfl) ?_
            exact Rg.retI F_Judge_faultAmong_126 rfl rfl rfl
          · subst s5
            refine ⟨5, 2 * s, 2 * s, F4, N4, D4, x3, y3, F4, N4, D4, K4, Or.inr ⟨nw, Or.inr ⟨hseq.trans j4, fun p z1 z2 => grp_split h0 (by omega), Or.inl ⟨rfl, s, rfl, s1, by omega, ⟨((k4 s s1 s2).mp s3.1).1, ((k4 s s1 s2).mp s3.1).2, s3.2⟩, fun r z1 z2 z3 => s4 r z1 z2 ⟨(k4 r z1 (by omega)).mpr ⟨z3.1, z3.2.1⟩, z3.2.2⟩⟩⟩⟩, w4, by omega, fun _ => rfl, fun z => absurd z (by omega), ?_⟩
            refine Cg.of (Nat.le_of_ble_eq_true rfl) ?_
            change Rg _ _ _ _ 0 [(0, .ref 33), (1, .ref 6), (2, .ref 19), (3, .int (iI f)), (4, .int (iI to))] [] _ _ _
            refine Rg.step 1 F_Judge_faultAmong_0 rfl (fun _ => rfl) ?_
            refine Rg.step 2 F_Judge_faultAmong_1 rfl (fun _ => rfl) ?_
            refine Rg.step 3 F_Judge_faultAmong_2 rfl (fun _ => rfl) ?_
            refine Rg.step 4 F_Judge_faultAmong_3 rfl (fun _ => rfl) ?_
            refine Rg.step 5 F_Judge_faultAmong_4 rfl (fun _ => rfl) ?_
            refine Rg.step 7 F_Judge_faultAmong_5 rfl (fun _ => rfl) ?_
            refine Rg.call 10 F_Judge_faultAmong_7 rfl (one_V rM_12_92 (by decide) (by simp) rfl rfl gC_33 rfl) (Nat.le_of_ble_eq_true rfl) c1 ?_
            refine Rg.put 13 F_Judge_faultAmong_10 rfl rF_12_67 gC_33 (by decide) (Nat.le_of_ble_eq_true rfl) (Or.inl rfl) rfl sO_juP ?_
            refine Rg.step 14 F_Judge_faultAmong_13 rfl (fun _ => rfl) ?_
            refine Rg.getf 17 F_Judge_faultAmong_14 rfl rF_12_67 gC_33 rfl ?_
            refine Rg.step 18 F_Judge_faultAmong_17 rfl (fun _ => rfl) ?_
            refine Rg.iceqI 23 21 F_Judge_faultAmong_18 rfl rfl (by omega) (by omega) (fun _ => ?_) (fun h18 => absurd rfl h18)
            refine Rg.step 24 F_Judge_faultAmong_23 rfl (fun _ => rfl) ?_
            refine Rg.step 25 F_Judge_faultAmong_24 rfl (fun _ => rfl) ?_
            refine Rg.step 26 F_Judge_faultAmong_25 rfl (fun _ => rfl) ?_
            refine Rg.step 27 F_Judge_faultAmong_26 rfl (fun _ => rfl) ?_
            refine Rg.step 28 F_Judge_faultAmong_27 rfl (fun _ => rfl) ?_
            refine Rg.step 30 F_Judge_faultAmong_28 rfl (fun _ => rfl) ?_
            refine Rg.call 33 F_Judge_faultAmong_30 rfl (one_V rM_12_95 (by decide) (by simp) rfl rfl gC_33 rfl) (Nat.le_of_ble_eq_true rfl) (Cg.any c2) ?_
            refine Rg.put 36 F_Judge_faultAmong_33 rfl rF_12_67 gC_33 (by decide) (Nat.le_of_ble_eq_true rfl) (Or.inl rfl) rfl sO_juP ?_
            refine Rg.step 37 F_Judge_faultAmong_36 rfl (fun _ => rfl) ?_
            refine Rg.getf 40 F_Judge_faultAmong_37 rfl rF_12_67 gC_33 rfl ?_
            refine Rg.step 41 F_Judge_faultAmong_40 rfl (fun _ => rfl) ?_
            refine Rg.iceqI 46 44 F_Judge_faultAmong_41 rfl rfl (by omega) (by omega) (fun _ => ?_) (fun h41 => absurd rfl h41)
            refine Rg.step 47 F_Judge_faultAmong_46 rfl (fun _ => rfl) ?_
            refine Rg.step 48 F_Judge_faultAmong_47 rfl (fun _ => rfl) ?_
            refine Rg.step 49 F_Judge_faultAmong_48 rfl (fun _ => rfl) ?_
            refine Rg.step 50 F_Judge_faultAmong_49 rfl (fun _ => rfl) ?_
            refine Rg.step 51 F_Judge_faultAmong_50 rfl (fun _ => rfl) ?_
            refine Rg.step 53 F_Judge_faultAmong_51 rfl (fun _ => rfl) ?_
            refine Rg.call 56 F_Judge_faultAmong_53 rfl (one_V rM_12_98 (by decide) (by simp) rfl rfl gC_33 rfl) (Nat.le_of_ble_eq_true rfl) c3 ?_
            refine Rg.put 59 F_Judge_faultAmong_56 rfl rF_12_67 gC_33 (by decide) (Nat.le_of_ble_eq_true rfl) (Or.inl rfl) rfl sO_juP ?_
            refine Rg.step 60 F_Judge_faultAmong_59 rfl (fun _ => rfl) ?_
            refine Rg.getf 63 F_Judge_faultAmong_60 rfl rF_12_67 gC_33 rfl ?_
            refine Rg.step 64 F_Judge_faultAmong_63 rfl (fun _ => rfl) ?_
            refine Rg.iceqI 69 67 F_Judge_faultAmong_64 rfl rfl (by omega) (by omega) (fun _ => ?_) (fun h64 => absurd rfl h64)
            refine Rg.step 70 F_Judge_faultAmong_69 rfl (fun _ => rfl) ?_
            refine Rg.step 71 F_Judge_faultAmong_70 rfl (fun _ => rfl) ?_
            refine Rg.step 72 F_Judge_faultAmong_71 rfl (fun _ => rfl) ?_
            refine Rg.step 73 F_Judge_faultAmong_72 rfl (fun _ => rfl) ?_
            refine Rg.step 74 F_Judge_faultAmong_73 rfl (fun _ => rfl) ?_
            refine Rg.step 76 F_Judge_faultAmong_74 rfl (fun _ => rfl) ?_
            refine Rg.call 79 F_Judge_faultAmong_76 rfl (one_V rM_12_101 (by decide) (by simp) rfl rfl gC_33 rfl) (Nat.le_of_ble_eq_true rfl) c4 ?_
            refine Rg.put 82 F_Judge_faultAmong_79 rfl rF_12_67 gC_33 (by decide) (Nat.le_of_ble_eq_true rfl) (Or.inl rfl) rfl sO_juP ?_
            refine Rg.step 83 F_Judge_faultAmong_82 rfl (fun _ => rfl) ?_
            refine Rg.getf 86 F_Judge_faultAmong_83 rfl rF_12_67 gC_33 rfl ?_
            refine Rg.step 87 F_Judge_faultAmong_86 rfl (fun _ => rfl) ?_
            refine Rg.iceqI 92 90 F_Judge_faultAmong_87 rfl rfl (by omega) (by omega) (fun _ => ?_) (fun h87 => absurd rfl h87)
            refine Rg.step 93 F_Judge_faultAmong_92 rfl (fun _ => rfl) ?_
            refine Rg.getf 96 F_Judge_faultAmong_93 rfl rF_12_30 gC_33 rfl ?_
            refine Rg.step 97 F_Judge_faultAmong_96 rfl (fun _ => rfl) ?_
            refine Rg.getf 100 F_Judge_faultAmong_97 rfl rF_12_34 gC_33 rfl ?_
            refine Rg.call 103 F_Judge_faultAmong_100 rfl (one_V rM_12_46 (by decide) (by simp) rfl rfl gC_41 rfl) (Nat.le_of_ble_eq_true rfl) hcf ?_
            refine Rg.step 104 F_Judge_faultAmong_103 rfl (fun _ => rfl) ?_
            refine Rg.step 105 F_Judge_faultAmong_104 rfl (fun _ => rfl) ?_
            refine Rg.step 106 F_Judge_faultAmong_105 rfl (fun _ => rfl) ?_
            refine Rg.step 107 F_Judge_faultAmong_106 rfl (fun _ => rfl) ?_
            refine Rg.call 110 F_Judge_faultAmong_107 rfl (one_V rM_12_104 (by decide) (by simp) rfl rfl gC_33 rfl) (Nat.le_of_ble_eq_true rfl) (Cg.any c5) ?_
            refine Rg.put 113 F_Judge_faultAmong_110 rfl rF_12_67 gC_33 (by decide) (Nat.le_of_ble_eq_true rfl) (Or.inl rfl) rfl sO_juP ?_
            refine Rg.step 114 F_Judge_faultAmong_113 rfl (fun _ => rfl) ?_
            refine Rg.getf 117 F_Judge_faultAmong_114 rfl rF_12_67 gC_33 rfl ?_
            refine Rg.step 118 F_Judge_faultAmong_117 rfl (fun _ => rfl) ?_
            refine Rg.iceqI 125 121 F_Judge_faultAmong_118 rfl rfl (by omega) (by omega) (fun h118 => by omega) (fun _ => ?_)
            refine Rg.step 122 F_Judge_faultAmong_121 rfl (fun _ => rfl) ?_
            refine Rg.step 126 F_Judge_faultAmong_122 rfl (fun _ => rfl) ?_
            exact Rg.retI F_Judge_faultAmong_126 rfl rfl rfl
      · have hb3 := hin _ g3.2.1
        refine ⟨3, r3, r3, noF, noN, noD, x3, y3, neF, neN, neD, juM, Or.inl ⟨by omega, by omega, g3.1, (hin _ g3.2.1).2, g3.2.1, g3.2.2.1, fun q z1 z2 z3 => g3.2.2.2 q z2 z3, ?_, rfl⟩, wN, by omega, fun _ => rfl, fun z => absurd z (by omega), ?_⟩
        · intro v q z1 z2 z3 z4 z5
          have hv : v = 1 ∨ v = 2 := by omega
          rcases hv with rfl | rfl
          · exact n1 q z5
          · exact n2 q z5
        · refine Cg.of (Nat.le_of_ble_eq_true rfl) ?_
          change Rg _ _ _ _ 0 [(0, .ref 33), (1, .ref 6), (2, .ref 19), (3, .int (iI f)), (4, .int (iI to))] [] _ _ _
          refine Rg.step 1 F_Judge_faultAmong_0 rfl (fun _ => rfl) ?_
          refine Rg.step 2 F_Judge_faultAmong_1 rfl (fun _ => rfl) ?_
          refine Rg.step 3 F_Judge_faultAmong_2 rfl (fun _ => rfl) ?_
          refine Rg.step 4 F_Judge_faultAmong_3 rfl (fun _ => rfl) ?_
          refine Rg.step 5 F_Judge_faultAmong_4 rfl (fun _ => rfl) ?_
          refine Rg.step 7 F_Judge_faultAmong_5 rfl (fun _ => rfl) ?_
          refine Rg.call 10 F_Judge_faultAmong_7 rfl (one_V rM_12_92 (by decide) (by simp) rfl rfl gC_33 rfl) (Nat.le_of_ble_eq_true rfl) c1 ?_
          refine Rg.put 13 F_Judge_faultAmong_10 rfl rF_12_67 gC_33 (by decide) (Nat.le_of_ble_eq_true rfl) (Or.inl rfl) rfl sO_juP ?_
          refine Rg.step 14 F_Judge_faultAmong_13 rfl (fun _ => rfl) ?_
          refine Rg.getf 17 F_Judge_faultAmong_14 rfl rF_12_67 gC_33 rfl ?_
          refine Rg.step 18 F_Judge_faultAmong_17 rfl (fun _ => rfl) ?_
          refine Rg.iceqI 23 21 F_Judge_faultAmong_18 rfl rfl (by omega) (by omega) (fun _ => ?_) (fun h18 => absurd rfl h18)
          refine Rg.step 24 F_Judge_faultAmong_23 rfl (fun _ => rfl) ?_
          refine Rg.step 25 F_Judge_faultAmong_24 rfl (fun _ => rfl) ?_
          refine Rg.step 26 F_Judge_faultAmong_25 rfl (fun _ => rfl) ?_
          refine Rg.step 27 F_Judge_faultAmong_26 rfl (fun _ => rfl) ?_
          refine Rg.step 28 F_Judge_faultAmong_27 rfl (fun _ => rfl) ?_
          refine Rg.step 30 F_Judge_faultAmong_28 rfl (fun _ => rfl) ?_
          refine Rg.call 33 F_Judge_faultAmong_30 rfl (one_V rM_12_95 (by decide) (by simp) rfl rfl gC_33 rfl) (Nat.le_of_ble_eq_true rfl) (Cg.any c2) ?_
          refine Rg.put 36 F_Judge_faultAmong_33 rfl rF_12_67 gC_33 (by decide) (Nat.le_of_ble_eq_true rfl) (Or.inl rfl) rfl sO_juP ?_
          refine Rg.step 37 F_Judge_faultAmong_36 rfl (fun _ => rfl) ?_
          refine Rg.getf 40 F_Judge_faultAmong_37 rfl rF_12_67 gC_33 rfl ?_
          refine Rg.step 41 F_Judge_faultAmong_40 rfl (fun _ => rfl) ?_
          refine Rg.iceqI 46 44 F_Judge_faultAmong_41 rfl rfl (by omega) (by omega) (fun _ => ?_) (fun h41 => absurd rfl h41)
          refine Rg.step 47 F_Judge_faultAmong_46 rfl (fun _ => rfl) ?_
          refine Rg.step 48 F_Judge_faultAmong_47 rfl (fun _ => rfl) ?_
          refine Rg.step 49 F_Judge_faultAmong_48 rfl (fun _ => rfl) ?_
          refine Rg.step 50 F_Judge_faultAmong_49 rfl (fun _ => rfl) ?_
          refine Rg.step 51 F_Judge_faultAmong_50 rfl (fun _ => rfl) ?_
          refine Rg.step 53 F_Judge_faultAmong_51 rfl (fun _ => rfl) ?_
          refine Rg.call 56 F_Judge_faultAmong_53 rfl (one_V rM_12_98 (by decide) (by simp) rfl rfl gC_33 rfl) (Nat.le_of_ble_eq_true rfl) c3 ?_
          refine Rg.put 59 F_Judge_faultAmong_56 rfl rF_12_67 gC_33 (by decide) (Nat.le_of_ble_eq_true rfl) (Or.inl rfl) rfl sO_juP ?_
          refine Rg.step 60 F_Judge_faultAmong_59 rfl (fun _ => rfl) ?_
          refine Rg.getf 63 F_Judge_faultAmong_60 rfl rF_12_67 gC_33 rfl ?_
          refine Rg.step 64 F_Judge_faultAmong_63 rfl (fun _ => rfl) ?_
          refine Rg.iceqI 69 67 F_Judge_faultAmong_64 rfl rfl (by omega) (by omega) (fun h64 => by omega) (fun _ => ?_)
          refine Rg.step 68 F_Judge_faultAmong_67 rfl (fun _ => rfl) ?_
          exact Rg.retI F_Judge_faultAmong_68 rfl rfl rfl
    · have hb2 := hin _ g2.2.1
      refine ⟨2, r2, r2, noF, noN, noD, x1, y1, neF, neN, neD, juM, Or.inl ⟨by omega, by omega, g2.1, (hin _ g2.2.1).2, g2.2.1, g2.2.2.1, fun q z1 z2 z3 => g2.2.2.2 q z2 z3, ?_, rfl⟩, wN, by omega, fun _ => rfl, fun z => absurd z (by omega), ?_⟩
      · intro v q z1 z2 z3 z4 z5
        have hv : v = 1 := by omega
        rcases hv with rfl
        · exact n1 q z5
      · refine Cg.of (Nat.le_of_ble_eq_true rfl) ?_
        change Rg _ _ _ _ 0 [(0, .ref 33), (1, .ref 6), (2, .ref 19), (3, .int (iI f)), (4, .int (iI to))] [] _ _ _
        refine Rg.step 1 F_Judge_faultAmong_0 rfl (fun _ => rfl) ?_
        refine Rg.step 2 F_Judge_faultAmong_1 rfl (fun _ => rfl) ?_
        refine Rg.step 3 F_Judge_faultAmong_2 rfl (fun _ => rfl) ?_
        refine Rg.step 4 F_Judge_faultAmong_3 rfl (fun _ => rfl) ?_
        refine Rg.step 5 F_Judge_faultAmong_4 rfl (fun _ => rfl) ?_
        refine Rg.step 7 F_Judge_faultAmong_5 rfl (fun _ => rfl) ?_
        refine Rg.call 10 F_Judge_faultAmong_7 rfl (one_V rM_12_92 (by decide) (by simp) rfl rfl gC_33 rfl) (Nat.le_of_ble_eq_true rfl) c1 ?_
        refine Rg.put 13 F_Judge_faultAmong_10 rfl rF_12_67 gC_33 (by decide) (Nat.le_of_ble_eq_true rfl) (Or.inl rfl) rfl sO_juP ?_
        refine Rg.step 14 F_Judge_faultAmong_13 rfl (fun _ => rfl) ?_
        refine Rg.getf 17 F_Judge_faultAmong_14 rfl rF_12_67 gC_33 rfl ?_
        refine Rg.step 18 F_Judge_faultAmong_17 rfl (fun _ => rfl) ?_
        refine Rg.iceqI 23 21 F_Judge_faultAmong_18 rfl rfl (by omega) (by omega) (fun _ => ?_) (fun h18 => absurd rfl h18)
        refine Rg.step 24 F_Judge_faultAmong_23 rfl (fun _ => rfl) ?_
        refine Rg.step 25 F_Judge_faultAmong_24 rfl (fun _ => rfl) ?_
        refine Rg.step 26 F_Judge_faultAmong_25 rfl (fun _ => rfl) ?_
        refine Rg.step 27 F_Judge_faultAmong_26 rfl (fun _ => rfl) ?_
        refine Rg.step 28 F_Judge_faultAmong_27 rfl (fun _ => rfl) ?_
        refine Rg.step 30 F_Judge_faultAmong_28 rfl (fun _ => rfl) ?_
        refine Rg.call 33 F_Judge_faultAmong_30 rfl (one_V rM_12_95 (by decide) (by simp) rfl rfl gC_33 rfl) (Nat.le_of_ble_eq_true rfl) (Cg.any c2) ?_
        refine Rg.put 36 F_Judge_faultAmong_33 rfl rF_12_67 gC_33 (by decide) (Nat.le_of_ble_eq_true rfl) (Or.inl rfl) rfl sO_juP ?_
        refine Rg.step 37 F_Judge_faultAmong_36 rfl (fun _ => rfl) ?_
        refine Rg.getf 40 F_Judge_faultAmong_37 rfl rF_12_67 gC_33 rfl ?_
        refine Rg.step 41 F_Judge_faultAmong_40 rfl (fun _ => rfl) ?_
        refine Rg.iceqI 46 44 F_Judge_faultAmong_41 rfl rfl (by omega) (by omega) (fun h41 => by omega) (fun _ => ?_)
        refine Rg.step 45 F_Judge_faultAmong_44 rfl (fun _ => rfl) ?_
        exact Rg.retI F_Judge_faultAmong_45 rfl rfl rfl
  · have hb1 := hin _ g1.2.1
    refine ⟨1, r1, r1, noF, noN, noD, x1, y1, neF, neN, neD, juM, Or.inl ⟨by omega, by omega, g1.1, (hin _ g1.2.1).2, g1.2.1, g1.2.2.1, fun q z1 z2 z3 => g1.2.2.2 q z2 z3, ?_, rfl⟩, wN, by omega, fun _ => rfl, fun z => absurd z (by omega), ?_⟩
    · intro v q z1 z2 z3 z4 z5
      omega
    · refine Cg.of (Nat.le_of_ble_eq_true rfl) ?_
      change Rg _ _ _ _ 0 [(0, .ref 33), (1, .ref 6), (2, .ref 19), (3, .int (iI f)), (4, .int (iI to))] [] _ _ _
      refine Rg.step 1 F_Judge_faultAmong_0 rfl (fun _ => rfl) ?_
      refine Rg.step 2 F_Judge_faultAmong_1 rfl (fun _ => rfl) ?_
      refine Rg.step 3 F_Judge_faultAmong_2 rfl (fun _ => rfl) ?_
      refine Rg.step 4 F_Judge_faultAmong_3 rfl (fun _ => rfl) ?_
      refine Rg.step 5 F_Judge_faultAmong_4 rfl (fun _ => rfl) ?_
      refine Rg.step 7 F_Judge_faultAmong_5 rfl (fun _ => rfl) ?_
      refine Rg.call 10 F_Judge_faultAmong_7 rfl (one_V rM_12_92 (by decide) (by simp) rfl rfl gC_33 rfl) (Nat.le_of_ble_eq_true rfl) c1 ?_
      refine Rg.put 13 F_Judge_faultAmong_10 rfl rF_12_67 gC_33 (by decide) (Nat.le_of_ble_eq_true rfl) (Or.inl rfl) rfl sO_juP ?_
      refine Rg.step 14 F_Judge_faultAmong_13 rfl (fun _ => rfl) ?_
      refine Rg.getf 17 F_Judge_faultAmong_14 rfl rF_12_67 gC_33 rfl ?_
      refine Rg.step 18 F_Judge_faultAmong_17 rfl (fun _ => rfl) ?_
      refine Rg.iceqI 23 21 F_Judge_faultAmong_18 rfl rfl (by omega) (by omega) (fun h18 => by omega) (fun _ => ?_)
      refine Rg.step 22 F_Judge_faultAmong_21 rfl (fun _ => rfl) ?_
      exact Rg.retI F_Judge_faultAmong_22 rfl rfl rfl
end R71
