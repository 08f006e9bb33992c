/-! Pairs of calls: the plan, and what is asked. -/
section P98
variable {row : Int → Int} {steps rows p : Int}
theorem row_close (h : ∀ k, 0 ≤ k → k < rows → RowOK row steps k) (hr : 0 ≤ rows) : ∀ s, grp row 0 rows (2 * s + 1) → grp row 0 rows (2 * s) := by
  intro s hs
  by_cases h0 : rows = 0
  · obtain ⟨i, i1, i2, -⟩ := hs
    omega
  · obtain ⟨q1, q2, q3, q4⟩ := h (rows - 1) (by omega) (by omega)
    have hg : ∀ p, grp row 0 rows p ↔ grp row 0 (rows - 1) p ∨ p = row (rows - 1) := fun p => by
      have := grp_1 (r := row) (k := rows - 1) (p := p) (by omega)
      rw [show rows - 1 + 1 = rows by omega] at this
      exact this
    rcases (hg _).mp hs with z | z
    · exact (hg _).mpr (Or.inl (q4 s z))
    · refine (hg _).mpr (Or.inl ?_)
      have := q3 (by omega)
      rw [← z, show 2 * s + 1 - 1 = 2 * s by omega] at this
      exact this
theorem row_push (h : ∀ k, 0 ≤ k → k < rows → RowOK row steps k) (hr : 0 ≤ rows) (hp : 0 ≤ p ∧ p < 2 * steps) (h1 : ¬ inRow row rows p) (h2 : ¬ p % 2 = 0 → inRow row rows (p - 1)) : ∀ k, 0 ≤ k → k < rows + 1 → RowOK (up1 row rows p) steps k := by
  intro k k1 k2
  by_cases e : k = rows
  · subst e
    have hg : ∀ q, grp (up1 row k p) 0 k q ↔ grp row 0 k q := fun q => grp_c (fun i i1 i2 => up1_ne _ _ (by omega))
    refine ⟨by rw [up1_eq]; exact hp, ?_, ?_, fun s hs => (hg _).mpr (row_close h hr s ((hg _).mp hs))⟩
    · rw [up1_eq, hg]; exact h1
    · rw [up1_eq, hg]; exact h2
  · exact (h k k1 (by omega)).ext (Int.le_refl _) (fun i i1 i2 => up1_ne _ _ (by omega)) k1
theorem row_in (h : ∀ k, 0 ≤ k → k < rows → RowOK row steps k) : ∀ k, 0 ≤ k → k < rows → 0 ≤ row k ∧ row k < 2 * steps := fun k k1 k2 => (h k k1 k2).1
theorem row_inj (h : ∀ k, 0 ≤ k → k < rows → RowOK row steps k) : ∀ i j, 0 ≤ i → i < j → j < rows → ¬ row i = row j := fun i j i1 i2 i3 z => (h j (by omega) i3).2.1 ⟨i, i1, i2, z⟩
theorem row_full (h : ∀ k, 0 ≤ k → k < rows → RowOK row steps k) (hs : 0 ≤ steps) (hr : 2 * steps ≤ rows) : ∀ p, 0 ≤ p → p < 2 * steps → ∃ j, 0 ≤ j ∧ j < 2 * steps ∧ row j = p := by
  have h1 := inj_full (n := (2 * steps).toNat) (T := row) (fun i i1 i2 => by have := row_in h i i1 (by omega); omega) (fun i j i1 i2 i3 => row_inj h i j i1 i2 (by omega))
  intro p p1 p2
  obtain ⟨j, j1, j2, j3⟩ := h1 p p1 (by omega)
  exact ⟨j, j1, by omega, j3⟩
theorem row_le (h : ∀ k, 0 ≤ k → k < rows → RowOK row steps k) (hs : 0 ≤ steps) : rows ≤ 2 * steps := by
  refine Classical.byContradiction (fun z => ?_)
  have hq := row_in h (2 * steps) (by omega) (by omega)
  obtain ⟨j, j1, j2, j3⟩ := row_full h hs (by omega) (row (2 * steps)) hq.1 hq.2
  exact row_inj h j (2 * steps) j1 j2 (by omega) j3
theorem row_room (h : ∀ k, 0 ≤ k → k < rows → RowOK row steps k) (hr : 0 ≤ rows) (hs : 0 ≤ steps) (hp : 0 ≤ p ∧ p < 2 * steps) (h1 : ¬ inRow row rows p) (h2 : ¬ p % 2 = 0 → inRow row rows (p - 1)) : rows + 1 ≤ 2 * steps := row_le (row_push h hr hp h1 h2) hs
theorem in_push (hr : 0 ≤ rows) {q : Int} : inRow (up1 row rows p) (rows + 1) q ↔ inRow row rows q ∨ q = p := by
  have h1 := grp_1 (r := up1 row rows p) (k := rows) (p := q) hr
  rw [up1_eq] at h1
  have h2 : grp (up1 row rows p) 0 rows q ↔ grp row 0 rows q := grp_c (fun i i1 i2 => up1_ne _ _ (by omega))
  rw [h2] at h1
  exact h1
theorem in_pop (h : ∀ k, 0 ≤ k → k < rows → RowOK row steps k) (hr : 0 < rows) {q : Int} : inRow row (rows - 1) q ↔ inRow row rows q ∧ ¬ q = row (rows - 1) := by
  have h1 := grp_1 (r := row) (k := rows - 1) (p := q) (by omega)
  rw [show rows - 1 + 1 = rows by omega] at h1
  have h2 := (h (rows - 1) (by omega) (by omega)).2.1
  refine ⟨fun z => ⟨h1.mpr (Or.inl z), fun y => h2 (y ▸ z)⟩, fun z => (h1.mp z.1).elim id (fun y => absurd y z.2)⟩
end P98
section R98
variable {alM juP arP arB arU arF : Int}
variable {handN handD epN epD plA plBN plBD plLN plLD plR vsN vsD juTN juTD juO scN scD noN noD neN neD arR arL arT arA arS leN leD grN grD arLU arGU shN shD : Int → Int}
variable {stN stD : Int → Int → Int}
variable {stF : Int → Int → Prop}
variable {gT gF plM vsF juM noF neF arM arH : Int → Prop}
variable {alE : Nat}
variable {code amountN amountD momentN momentD epsilonN epsilonD actions steps rows tried triedRows unit point judged fault faultPoint outN outD : Int}
variable {firstN firstD wishes wants wantN wantD needs needTime needOf needHow needN needD changes changeTime changeOf changeHow changeN changeD lastOf lastN lastD stepAction startN startD lengthN lengthD row triedAction triedRow times numN numD oldN oldD toldN toldD pointN pointD leastN leastD greatestN greatestD events : Int → Int}
variable {firstFacts facts oldFacts toldFacts gone now : Int → Prop}
variable {s0 : AC} {n : Nat} {mem post : AM} {ab : Int → Nat} {x : Int64}
theorem p_step {a : Int} (b_a : -2147483648 ≤ a ∧ a < 2147483648)  (h : INV s0 n mem) : Pair s0 n mem m_Law_step m_Mo_step [.ref 2, .int (iI a), .ref 218] [.ref 168, .int (iI a)] QI := by
  refine h _ ?_
  clear h
  intro handN handD gT gF alE alM epN epD plM plA plBN plBD plLN plLD plR vsF vsN vsD juM juP juTN juTD juO scN scD noF noN noD neF neN neD arP arB arM arU arF arR arL arT arA arS leN leD grN grD arH arLU arGU shN shD stF stN stD code amountN amountD momentN momentD epsilonN epsilonD firstFacts firstN firstD wishes wants wantN wantD actions needs needTime needOf needHow needN needD changes changeTime changeOf changeHow changeN changeD lastOf lastN lastD steps stepAction startN startD lengthN lengthD rows row tried triedAction triedRows triedRow times unit facts numN numD oldFacts oldN oldD point judged fault faultPoint toldFacts toldN toldD outN outD pointN pointD gone now leastN leastD greatestN greatestD events ab post x he rH rA rG rM rE rEg rT rN hw rS rR rB rP rU rL rX rO rQ rK rI rV rY hO hD hL hn
  subst he
  obtain ⟨rfl, rfl, rfl, rfl⟩ := rH
  have wA := hw.2.2.2.2.1
  by_cases ha : 0 ≤ a ∧ a < actions
  · by_cases hh : 0 ≤ handN 1 ∧ 0 < handN 0
    · by_cases h12 : steps = 12
      · skip
        exact pair_exc (⟨rfl, rfl, rfl, rfl⟩) rA rG rM rE rEg rT rN hw rS rR rB rP rU rL rX rO rQ rK rI rV rY hO hD hL hn (k := 3) (by omega) (c_PJ_step3 wA h12 (by omega) (by omega) ha (by omega)) (fun z1 z2 => w_step_3 (d := 29) z1 z2) (fun post1 => c_Mo_step3 mc_len wA rS b_a (by omega) (by omega) (by omega) hh h12) (fun _ => ⟨_, rfl, fun z => absurd z (by decide)⟩)
      · skip
        have hcc : Cg false 29 m_PJ_step [.ref 2, .int (iI a)] (MC s0 (.inl (.object "java/lang/Object", [])) handN handD gT gF alE actions alM firstFacts firstN firstD epN epD wants wantN wantD steps rows plM plA plBN plBD plLN plLD plR judged fault faultPoint vsF vsN vsD juM juP juTN juTD juO scN scD noF noN noD neF neN neD arP arB arM arU arF arR arL arT arA arS leN leD grN grD arH arLU arGU shN shD stF stN stD ((encR code (handN 0) (handD 0) (handN 1) (handD 1) epsilonN epsilonD firstFacts firstN firstD wishes wants wantN wantD actions needs needTime needOf needHow needN needD changes changeTime changeOf changeHow changeN changeD lastOf lastN lastD steps stepAction startN startD lengthN lengthD rows row tried triedAction triedRows triedRow times unit facts numN numD oldFacts oldN oldD point judged fault faultPoint toldFacts toldN toldD outN outD pointN pointD gone now leastN leastD greatestN greatestD events) ++ (OUTC x :: post))) _ _ := c_PJ_step wA (by omega) (by omega) (by omega) ha (by omega)
        have hwr := w_step_ok (d := 29) k_2 (Cg.mc hcc) (k_218 mc_len)
        rw [s_218 mc_len] at hwr
        exact ⟨0, _, _, _, by omega, hwr, k_0, k_168 mc_len, c_Mo_step mc_len wA rS b_a (by omega) (by omega) (by omega) hh h12, Cg.any (c_Mo_thrown mc_len), INV.of (x := _) (⟨rfl, rfl, rfl, rfl⟩) rA rG rM rE rEg rT rN hw (by omega) rR (up_all rB (P := fun z => 0 ≤ z ∧ z < 12) (by omega)) (fun s s1 s2 => by
          by_cases e : s = steps
          · rw [e, up1_eq, up1_eq]; exact ⟨rfl, ha⟩
          · rw [up1_ne _ _ e, up1_ne _ _ e]; exact rP s s1 (by omega)) rU (fun s s1 s2 => by
          by_cases e : s = steps
          · rw [e]; simp only [up1_eq]; exact ⟨trivial, trivial, trivial, trivial⟩
          · simp only [up1_ne _ _ e]; exact rL s s1 (by omega)) (WPL_step rX (by omega) (by omega) (by omega) (by omega)) rO rQ (fun k k1 k2 => (rK k k1 k2).ext (by omega) (fun _ _ _ => rfl) k1) rI rV rY hO hD hL (by omega), ⟨_, rfl, fun _ => k_218 mc_len⟩⟩
    · skip
      exact pair_exc (⟨rfl, rfl, rfl, rfl⟩) rA rG rM rE rEg rT rN hw rS rR rB rP rU rL rX rO rQ rK rI rV rY hO hD hL hn (k := 2) (by omega) (c_PJ_step2 wA (by omega) (by omega) ha (by omega)) (fun z1 z2 => w_step_2 (d := 29) z1 z2) (fun post1 => c_Mo_step2 mc_len wA rS b_a (by omega) (by omega) (by omega) hh) (fun _ => ⟨_, rfl, fun z => absurd z (by decide)⟩)
  · skip
    exact pair_exc (⟨rfl, rfl, rfl, rfl⟩) rA rG rM rE rEg rT rN hw rS rR rB rP rU rL rX rO rQ rK rI rV rY hO hD hL hn (k := 1) (by omega) (c_PJ_step1 wA b_a ha) (fun z1 z2 => w_step_1 (d := 29) z1 z2) (fun post1 => c_Mo_step1 mc_len wA rS b_a (by omega) (by omega) (by omega)) (fun _ => ⟨_, rfl, fun z => absurd z (by decide)⟩)
theorem p_push {p : Int} (b_p : -2147483648 ≤ p ∧ p < 2147483648)  (h : INV s0 n mem) : Pair s0 n mem m_Law_push m_Mo_push [.ref 2, .int (iI p)] [.ref 168, .int (iI p)] QV := by
  refine h _ ?_
  clear h
  intro handN handD gT gF alE alM epN epD plM plA plBN plBD plLN plLD plR vsF vsN vsD juM juP juTN juTD juO scN scD noF noN noD neF neN neD arP arB arM arU arF arR arL arT arA arS leN leD grN grD arH arLU arGU shN shD stF stN stD code amountN amountD momentN momentD epsilonN epsilonD firstFacts firstN firstD wishes wants wantN wantD actions needs needTime needOf needHow needN needD changes changeTime changeOf changeHow changeN changeD lastOf lastN lastD steps stepAction startN startD lengthN lengthD rows row tried triedAction triedRows triedRow times unit facts numN numD oldFacts oldN oldD point judged fault faultPoint toldFacts toldN toldD outN outD pointN pointD gone now leastN leastD greatestN greatestD events ab post x he rH rA rG rM rE rEg rT rN hw rS rR rB rP rU rL rX rO rQ rK rI rV rY hO hD hL hn
  subst he
  obtain ⟨rfl, rfl, rfl, rfl⟩ := rH
  by_cases hp : 0 ≤ p ∧ p < 2 * steps
  · by_cases hh : inRow row rows p ∨ (p % 2 = 1 ∧ ¬ inRow row rows (p - 1))
    · skip
      exact pair_exc (⟨rfl, rfl, rfl, rfl⟩) rA rG rM rE rEg rT rN hw rS rR rB rP rU rL rX rO rQ rK rI rV rY hO hD hL hn (k := 2) (by omega) (c_PJ_push2 rS hp (hh.imp (rI p).mpr (fun z => ⟨by omega, fun y => z.2 ((rI _).mp y)⟩))) (fun z1 z2 => w_push_2 (d := 29) z1 z2) (fun post1 => c_Mo_push2 mc_len rS rR rO b_p (by omega) hh) (fun _ => rfl)
    · have h1 : ¬ inRow row rows p := fun z => hh (Or.inl z)
      have h2 : ¬ p % 2 = 0 → inRow row rows (p - 1) := fun z => Classical.byContradiction (fun y => hh (Or.inr ⟨by omega, y⟩))
      have h3 := row_room rK rR.1 rS.1 hp h1 h2
      exact ⟨0, none, _, _, by omega, w_push_ok (d := 29) k_2 (Cg.mc (c_PJ_push rS (by omega) hp (fun z => h1 ((rI p).mp z)) (fun z => (rI _).mpr (h2 z)))), k_0, k_168 mc_len, c_Mo_push mc_len rS rR rO b_p (by omega) h1 (fun z => h2 (by omega)) (by omega), Cg.any (c_Mo_thrown mc_len), INV.of (⟨rfl, rfl, rfl, rfl⟩) rA rG rM rE rEg rT rN hw rS (by omega) rB rP rU rL rX (up_all rO (P := fun z => 0 ≤ z ∧ z ≤ 23) (by omega)) (fun k k1 k2 => by
        by_cases e : k = rows
        · rw [e, up1_eq, up1_eq]
        · rw [up1_ne _ _ e, up1_ne _ _ e]; exact rQ k k1 (by omega)) (row_push rK rR.1 hp h1 h2) (fun q => (or_congr (rI q) Iff.rfl).trans (in_push rR.1).symm) rV rY hO hD hL (by omega), rfl⟩
  · skip
    exact pair_exc (⟨rfl, rfl, rfl, rfl⟩) rA rG rM rE rEg rT rN hw rS rR rB rP rU rL rX rO rQ rK rI rV rY hO hD hL hn (k := 1) (by omega) (c_PJ_push1 rS b_p hp) (fun z1 z2 => w_push_1 (d := 29) z1 z2) (fun post1 => c_Mo_push1 mc_len rS rR rO b_p (by omega)) (fun _ => rfl)
theorem p_clear  (h : INV s0 n mem) : PairN s0 n mem m_PJ_clear m_Mo_clear [.ref 2] [.ref 168] (fun o => o = none) := by
  refine h _ ?_
  clear h
  intro handN handD gT gF alE alM epN epD plM plA plBN plBD plLN plLD plR vsF vsN vsD juM juP juTN juTD juO scN scD noF noN noD neF neN neD arP arB arM arU arF arR arL arT arA arS leN leD grN grD arH arLU arGU shN shD stF stN stD code amountN amountD momentN momentD epsilonN epsilonD firstFacts firstN firstD wishes wants wantN wantD actions needs needTime needOf needHow needN needD changes changeTime changeOf changeHow changeN changeD lastOf lastN lastD steps stepAction startN startD lengthN lengthD rows row tried triedAction triedRows triedRow times unit facts numN numD oldFacts oldN oldD point judged fault faultPoint toldFacts toldN toldD outN outD pointN pointD gone now leastN leastD greatestN greatestD events ab post x he rH rA rG rM rE rEg rT rN hw rS rR rB rP rU rL rX rO rQ rK rI rV rY hO hD hL hn
  subst he
  obtain ⟨rfl, rfl, rfl, rfl⟩ := rH
  exact ⟨_, _, _, Cg.mc (c_PJ_clear), k_0, k_168 mc_len, c_Mo_clear mc_len, INV.of (⟨rfl, rfl, rfl, rfl⟩) rA rG rM rE rEg rT rN hw (by omega) (by omega) rB (fun s s1 s2 => by omega) rU (fun s s1 s2 => by omega) (fun s s1 s2 => by omega) rO (fun s s1 s2 => by omega) (fun s s1 s2 => by omega) (fun p => ⟨False.elim, fun ⟨j, j1, j2, _⟩ => by omega⟩) rV rY hO hD hL (by omega), rfl⟩
theorem p_pop  (h : INV s0 n mem) : PairN s0 n mem m_PJ_pop m_Mo_pop [.ref 2] [.ref 168] (fun o => ∃ b : Int32, o = some (.int b)) := by
  refine h _ ?_
  clear h
  intro handN handD gT gF alE alM epN epD plM plA plBN plBD plLN plLD plR vsF vsN vsD juM juP juTN juTD juO scN scD noF noN noD neF neN neD arP arB arM arU arF arR arL arT arA arS leN leD grN grD arH arLU arGU shN shD stF stN stD code amountN amountD momentN momentD epsilonN epsilonD firstFacts firstN firstD wishes wants wantN wantD actions needs needTime needOf needHow needN needD changes changeTime changeOf changeHow changeN changeD lastOf lastN lastD steps stepAction startN startD lengthN lengthD rows row tried triedAction triedRows triedRow times unit facts numN numD oldFacts oldN oldD point judged fault faultPoint toldFacts toldN toldD outN outD pointN pointD gone now leastN leastD greatestN greatestD events ab post x he rH rA rG rM rE rEg rT rN hw rS rR rB rP rU rL rX rO rQ rK rI rV rY hO hD hL hn
  subst he
  obtain ⟨rfl, rfl, rfl, rfl⟩ := rH
  by_cases h0 : rows = 0
  · skip
    exact ⟨_, _, _, Cg.mc (Cg.any (c_PJ_pop0 h0)), k_0, k_168 mc_len, c_Mo_pop0 mc_len rR h0, INV.of (⟨rfl, rfl, rfl, rfl⟩) rA rG rM rE rEg rT rN hw rS rR rB rP rU rL rX rO rQ rK rI rV rY hO hD hL (by omega), ⟨_, rfl⟩⟩
  · have h1 := rO (rows - 1)
    have h2 := rQ (rows - 1) (by omega) (by omega)
    have hr : Cg false 30 m_Mo_pop [.ref 168] (MR (MC s0 (.inl (.object "java/lang/Object", [])) handN handD gT gF alE actions alM firstFacts firstN firstD epN epD wants wantN wantD steps (rows - 1) (fun i => plM i ∧ ¬ i = plR (rows - 1)) plA plBN plBD plLN plLD plR judged fault faultPoint vsF vsN vsD juM juP juTN juTD juO scN scD noF noN noD neF neN neD arP arB arM arU arF arR arL arT arA arS leN leD grN grD arH arLU arGU shN shD stF stN stD []) code (handN 0) (handD 0) (handN 1) (handD 1) epsilonN epsilonD firstFacts firstN firstD wishes wants wantN wantD actions needs needTime needOf needHow needN needD changes changeTime changeOf changeHow changeN changeD lastOf lastN lastD steps stepAction startN startD lengthN lengthD rows row tried triedAction triedRows triedRow times unit facts numN numD oldFacts oldN oldD point judged fault faultPoint toldFacts toldN toldD outN outD pointN pointD gone now leastN leastD greatestN greatestD events (OUTC x :: post)) (.inl (some (.int (iI (row (rows - 1)))))) _ := c_Mo_pop mc_len rR h0
    rw [← h2] at hr
    exact ⟨_, _, _, Cg.mc (c_PJ_pop (by omega) (by rw [h2]; omega)), k_0, k_168 mc_len, hr, INV.of (⟨rfl, rfl, rfl, rfl⟩) rA rG rM rE rEg rT rN hw rS (by omega) rB rP rU rL rX rO (fun k k1 k2 => rQ k k1 (by omega)) (fun k k1 k2 => rK k k1 (by omega)) (fun q => (and_congr (rI q) (by rw [h2])).trans (in_pop rK (by omega)).symm) rV rY hO hD hL (by omega), ⟨_, rfl⟩⟩
theorem p_at {k : Int} (b_k : -2147483648 ≤ k ∧ k < 2147483648) (h : INV s0 n mem) : PairN s0 n mem m_PJ_at m_Mo_at [.ref 2, .int (iI k)] [.ref 168, .int (iI k)] (fun o => ∃ b : Int32, o = some (.int b)) := by
  refine h _ ?_
  clear h
  intro handN handD gT gF alE alM epN epD plM plA plBN plBD plLN plLD plR vsF vsN vsD juM juP juTN juTD juO scN scD noF noN noD neF neN neD arP arB arM arU arF arR arL arT arA arS leN leD grN grD arH arLU arGU shN shD stF stN stD code amountN amountD momentN momentD epsilonN epsilonD firstFacts firstN firstD wishes wants wantN wantD actions needs needTime needOf needHow needN needD changes changeTime changeOf changeHow changeN changeD lastOf lastN lastD steps stepAction startN startD lengthN lengthD rows row tried triedAction triedRows triedRow times unit facts numN numD oldFacts oldN oldD point judged fault faultPoint toldFacts toldN toldD outN outD pointN pointD gone now leastN leastD greatestN greatestD events ab post x he rH rA rG rM rE rEg rT rN hw rS rR rB rP rU rL rX rO rQ rK rI rV rY hO hD hL hn
  subst he
  obtain ⟨rfl, rfl, rfl, rfl⟩ := rH
  by_cases hh : 0 ≤ k ∧ k < rows
  · skip
    have h2 := rQ k hh.1 hh.2
    have hr : Cg false 30 m_Mo_at [.ref 168, .int (iI k)] (MR (MC s0 (.inl (.object "java/lang/Object", [])) handN handD gT gF alE actions alM firstFacts firstN firstD epN epD wants wantN wantD steps rows plM plA plBN plBD plLN plLD plR judged fault faultPoint vsF vsN vsD juM juP juTN juTD juO scN scD noF noN noD neF neN neD arP arB arM arU arF arR arL arT arA arS leN leD grN grD arH arLU arGU shN shD stF stN stD []) code (handN 0) (handD 0) (handN 1) (handD 1) epsilonN epsilonD firstFacts firstN firstD wishes wants wantN wantD actions needs needTime needOf needHow needN needD changes changeTime changeOf changeHow changeN changeD lastOf lastN lastD steps stepAction startN startD lengthN lengthD rows row tried triedAction triedRows triedRow times unit facts numN numD oldFacts oldN oldD point judged fault faultPoint toldFacts toldN toldD outN outD pointN pointD gone now leastN leastD greatestN greatestD events (OUTC x :: post)) (.inl (some (.int (iI (row k))))) _ := c_Mo_at mc_len rR b_k (by omega)
    rw [← h2] at hr
    exact ⟨_, _, _, Cg.mc (Cg.any (c_PJ_at rR hh)), k_0, k_168 mc_len, hr, INV.of (⟨rfl, rfl, rfl, rfl⟩) rA rG rM rE rEg rT rN hw rS rR rB rP rU rL rX rO rQ rK rI rV rY hO hD hL (by omega), ⟨_, rfl⟩⟩
  · skip
    exact ⟨_, _, _, Cg.mc (Cg.any (c_PJ_at0 rR b_k hh)), k_0, k_168 mc_len, c_Mo_at0 mc_len rR b_k (by omega), INV.of (⟨rfl, rfl, rfl, rfl⟩) rA rG rM rE rEg rT rN hw rS rR rB rP rU rL rX rO rQ rK rI rV rY hO hD hL (by omega), ⟨_, rfl⟩⟩
theorem p_count {w : Int} (b_w : -2147483648 ≤ w ∧ w < 2147483648)  (h : INV s0 n mem) : Pair s0 n mem m_Law_count m_Mo_count [.ref 2, .int (iI w), .ref 218] [.ref 168, .int (iI w)] QI := by
  refine h _ ?_
  clear h
  intro handN handD gT gF alE alM epN epD plM plA plBN plBD plLN plLD plR vsF vsN vsD juM juP juTN juTD juO scN scD noF noN noD neF neN neD arP arB arM arU arF arR arL arT arA arS leN leD grN grD arH arLU arGU shN shD stF stN stD code amountN amountD momentN momentD epsilonN epsilonD firstFacts firstN firstD wishes wants wantN wantD actions needs needTime needOf needHow needN needD changes changeTime changeOf changeHow changeN changeD lastOf lastN lastD steps stepAction startN startD lengthN lengthD rows row tried triedAction triedRows triedRow times unit facts numN numD oldFacts oldN oldD point judged fault faultPoint toldFacts toldN toldD outN outD pointN pointD gone now leastN leastD greatestN greatestD events ab post x he rH rA rG rM rE rEg rT rN hw rS rR rB rP rU rL rX rO rQ rK rI rV rY hO hD hL hn
  subst he
  obtain ⟨rfl, rfl, rfl, rfl⟩ := rH
  by_cases hh : 0 ≤ w ∧ w ≤ 4
  · rcases (show w = 0 ∨ w = 1 ∨ w = 2 ∨ w = 3 ∨ w = 4 by omega) with z | z | z | z | z <;> subst z
    · skip
      have hcc : Cg false 29 m_PJ_count [.ref 2, .int (iI 0)] (MC s0 (.inl (.object "java/lang/Object", [])) handN handD gT gF alE actions alM firstFacts firstN firstD epN epD wants wantN wantD steps rows plM plA plBN plBD plLN plLD plR judged fault faultPoint vsF vsN vsD juM juP juTN juTD juO scN scD noF noN noD neF neN neD arP arB arM arU arF arR arL arT arA arS leN leD grN grD arH arLU arGU shN shD stF stN stD ((encR code (handN 0) (handD 0) (handN 1) (handD 1) epsilonN epsilonD firstFacts firstN firstD wishes wants wantN wantD actions needs needTime needOf needHow needN needD changes changeTime changeOf changeHow changeN changeD lastOf lastN lastD steps stepAction startN startD lengthN lengthD rows row tried triedAction triedRows triedRow times unit facts numN numD oldFacts oldN oldD point judged fault faultPoint toldFacts toldN toldD outN outD pointN pointD gone now leastN leastD greatestN greatestD events) ++ (OUTC x :: post))) _ _ := Cg.any c_PJ_count_0
      have hwr := w_count_ok (d := 29) k_2 (Cg.mc hcc) (k_218 mc_len)
      rw [s_218 mc_len] at hwr
      exact ⟨0, _, _, _, by omega, hwr, k_0, k_168 mc_len, c_Mo_count_0 mc_len, Cg.any (c_Mo_thrown mc_len), INV.of (x := _) (⟨rfl, rfl, rfl, rfl⟩) rA rG rM rE rEg rT rN hw rS rR rB rP rU rL rX rO rQ rK rI rV rY hO hD hL (by omega), ⟨_, rfl, fun _ => k_218 mc_len⟩⟩
    · skip
      have hcc : Cg false 29 m_PJ_count [.ref 2, .int (iI 1)] (MC s0 (.inl (.object "java/lang/Object", [])) handN handD gT gF alE actions alM firstFacts firstN firstD epN epD wants wantN wantD steps rows plM plA plBN plBD plLN plLD plR judged fault faultPoint vsF vsN vsD juM juP juTN juTD juO scN scD noF noN noD neF neN neD arP arB arM arU arF arR arL arT arA arS leN leD grN grD arH arLU arGU shN shD stF stN stD ((encR code (handN 0) (handD 0) (handN 1) (handD 1) epsilonN epsilonD firstFacts firstN firstD wishes wants wantN wantD actions needs needTime needOf needHow needN needD changes changeTime changeOf changeHow changeN changeD lastOf lastN lastD steps stepAction startN startD lengthN lengthD rows row tried triedAction triedRows triedRow times unit facts numN numD oldFacts oldN oldD point judged fault faultPoint toldFacts toldN toldD outN outD pointN pointD gone now leastN leastD greatestN greatestD events) ++ (OUTC x :: post))) _ _ := Cg.any c_PJ_count_1
      have hwr := w_count_ok (d := 29) k_2 (Cg.mc hcc) (k_218 mc_len)
      rw [s_218 mc_len] at hwr
      exact ⟨0, _, _, _, by omega, hwr, k_0, k_168 mc_len, c_Mo_count_1 mc_len, Cg.any (c_Mo_thrown mc_len), INV.of (x := _) (⟨rfl, rfl, rfl, rfl⟩) rA rG rM rE rEg rT rN hw rS rR rB rP rU rL rX rO rQ rK rI rV rY hO hD hL (by omega), ⟨_, rfl, fun _ => k_218 mc_len⟩⟩
    · skip
      have hcc : Cg false 29 m_PJ_count [.ref 2, .int (iI 2)] (MC s0 (.inl (.object "java/lang/Object", [])) handN handD gT gF alE actions alM firstFacts firstN firstD epN epD wants wantN wantD steps rows plM plA plBN plBD plLN plLD plR judged fault faultPoint vsF vsN vsD juM juP juTN juTD juO scN scD noF noN noD neF neN neD arP arB arM arU arF arR arL arT arA arS leN leD grN grD arH arLU arGU shN shD stF stN stD ((encR code (handN 0) (handD 0) (handN 1) (handD 1) epsilonN epsilonD firstFacts firstN firstD wishes wants wantN wantD actions needs needTime needOf needHow needN needD changes changeTime changeOf changeHow changeN changeD lastOf lastN lastD steps stepAction startN startD lengthN lengthD rows row tried triedAction triedRows triedRow times unit facts numN numD oldFacts oldN oldD point judged fault faultPoint toldFacts toldN toldD outN outD pointN pointD gone now leastN leastD greatestN greatestD events) ++ (OUTC x :: post))) _ _ := Cg.any c_PJ_count_2
      have hwr := w_count_ok (d := 29) k_2 (Cg.mc hcc) (k_218 mc_len)
      rw [s_218 mc_len] at hwr
      exact ⟨0, _, _, _, by omega, hwr, k_0, k_168 mc_len, c_Mo_count_2 mc_len, Cg.any (c_Mo_thrown mc_len), INV.of (x := _) (⟨rfl, rfl, rfl, rfl⟩) rA rG rM rE rEg rT rN hw rS rR rB rP rU rL rX rO rQ rK rI rV rY hO hD hL (by omega), ⟨_, rfl, fun _ => k_218 mc_len⟩⟩
    · skip
      have hcc : Cg false 29 m_PJ_count [.ref 2, .int (iI 3)] (MC s0 (.inl (.object "java/lang/Object", [])) handN handD gT gF alE actions alM firstFacts firstN firstD epN epD wants wantN wantD steps rows plM plA plBN plBD plLN plLD plR judged fault faultPoint vsF vsN vsD juM juP juTN juTD juO scN scD noF noN noD neF neN neD arP arB arM arU arF arR arL arT arA arS leN leD grN grD arH arLU arGU shN shD stF stN stD ((encR code (handN 0) (handD 0) (handN 1) (handD 1) epsilonN epsilonD firstFacts firstN firstD wishes wants wantN wantD actions needs needTime needOf needHow needN needD changes changeTime changeOf changeHow changeN changeD lastOf lastN lastD steps stepAction startN startD lengthN lengthD rows row tried triedAction triedRows triedRow times unit facts numN numD oldFacts oldN oldD point judged fault faultPoint toldFacts toldN toldD outN outD pointN pointD gone now leastN leastD greatestN greatestD events) ++ (OUTC x :: post))) _ _ := Cg.any c_PJ_count_3
      have hwr := w_count_ok (d := 29) k_2 (Cg.mc hcc) (k_218 mc_len)
      rw [s_218 mc_len] at hwr
      exact ⟨0, _, _, _, by omega, hwr, k_0, k_168 mc_len, c_Mo_count_3 mc_len, Cg.any (c_Mo_thrown mc_len), INV.of (x := _) (⟨rfl, rfl, rfl, rfl⟩) rA rG rM rE rEg rT rN hw rS rR rB rP rU rL rX rO rQ rK rI rV rY hO hD hL (by omega), ⟨_, rfl, fun _ => k_218 mc_len⟩⟩
    · skip
      have hcc : Cg false 29 m_PJ_count [.ref 2, .int (iI 4)] (MC s0 (.inl (.object "java/lang/Object", [])) handN handD gT gF alE actions alM firstFacts firstN firstD epN epD wants wantN wantD steps rows plM plA plBN plBD plLN plLD plR judged fault faultPoint vsF vsN vsD juM juP juTN juTD juO scN scD noF noN noD neF neN neD arP arB arM arU arF arR arL arT arA arS leN leD grN grD arH arLU arGU shN shD stF stN stD ((encR code (handN 0) (handD 0) (handN 1) (handD 1) epsilonN epsilonD firstFacts firstN firstD wishes wants wantN wantD actions needs needTime needOf needHow needN needD changes changeTime changeOf changeHow changeN changeD lastOf lastN lastD steps stepAction startN startD lengthN lengthD rows row tried triedAction triedRows triedRow times unit facts numN numD oldFacts oldN oldD point judged fault faultPoint toldFacts toldN toldD outN outD pointN pointD gone now leastN leastD greatestN greatestD events) ++ (OUTC x :: post))) _ _ := Cg.any c_PJ_count_4
      have hwr := w_count_ok (d := 29) k_2 (Cg.mc hcc) (k_218 mc_len)
      rw [s_218 mc_len] at hwr
      exact ⟨0, _, _, _, by omega, hwr, k_0, k_168 mc_len, c_Mo_count_4 mc_len, Cg.any (c_Mo_thrown mc_len), INV.of (x := _) (⟨rfl, rfl, rfl, rfl⟩) rA rG rM rE rEg rT rN hw rS rR rB rP rU rL rX rO rQ rK rI rV rY hO hD hL (by omega), ⟨_, rfl, fun _ => k_218 mc_len⟩⟩
  · skip
    exact pair_exc (⟨rfl, rfl, rfl, rfl⟩) rA rG rM rE rEg rT rN hw rS rR rB rP rU rL rX rO rQ rK rI rV rY hO hD hL hn (k := 1) (by omega) (c_PJ_count1 b_w hh) (fun z1 z2 => w_count_1 (d := 29) z1 z2) (fun post1 => c_Mo_count1 mc_len b_w hh) (fun _ => ⟨_, rfl, fun z => absurd z (by decide)⟩)
theorem p_done {k : Int} (b_k : -2147483648 ≤ k ∧ k < 2147483648)  (h : INV s0 n mem) : Pair s0 n mem m_Law_done m_Mo_done [.ref 2, .int (iI k), .ref 218] [.ref 168, .int (iI k)] QI := by
  refine h _ ?_
  clear h
  intro handN handD gT gF alE alM epN epD plM plA plBN plBD plLN plLD plR vsF vsN vsD juM juP juTN juTD juO scN scD noF noN noD neF neN neD arP arB arM arU arF arR arL arT arA arS leN leD grN grD arH arLU arGU shN shD stF stN stD code amountN amountD momentN momentD epsilonN epsilonD firstFacts firstN firstD wishes wants wantN wantD actions needs needTime needOf needHow needN needD changes changeTime changeOf changeHow changeN changeD lastOf lastN lastD steps stepAction startN startD lengthN lengthD rows row tried triedAction triedRows triedRow times unit facts numN numD oldFacts oldN oldD point judged fault faultPoint toldFacts toldN toldD outN outD pointN pointD gone now leastN leastD greatestN greatestD events ab post x he rH rA rG rM rE rEg rT rN hw rS rR rB rP rU rL rX rO rQ rK rI rV rY hO hD hL hn
  subst he
  obtain ⟨rfl, rfl, rfl, rfl⟩ := rH
  by_cases hh : 0 ≤ k ∧ k < steps
  · skip
    have h2 := (rP k hh.1 hh.2).1
    have hc : Cg false 29 m_PJ_done [.ref 2, .int (iI k)] (MC s0 (.inl (.object "java/lang/Object", [])) handN handD gT gF alE actions alM firstFacts firstN firstD epN epD wants wantN wantD steps rows plM plA plBN plBD plLN plLD plR judged fault faultPoint vsF vsN vsD juM juP juTN juTD juO scN scD noF noN noD neF neN neD arP arB arM arU arF arR arL arT arA arS leN leD grN grD arH arLU arGU shN shD stF stN stD ((encR code (handN 0) (handD 0) (handN 1) (handD 1) epsilonN epsilonD firstFacts firstN firstD wishes wants wantN wantD actions needs needTime needOf needHow needN needD changes changeTime changeOf changeHow changeN changeD lastOf lastN lastD steps stepAction startN startD lengthN lengthD rows row tried triedAction triedRows triedRow times unit facts numN numD oldFacts oldN oldD point judged fault faultPoint toldFacts toldN toldD outN outD pointN pointD gone now leastN leastD greatestN greatestD events) ++ (OUTC x :: post))) (.inl (some (.int (iI (plA k))))) _ := Cg.any (c_PJ_done rS hh)
    rw [h2] at hc
    have hcc : Cg false 29 m_PJ_done [.ref 2, .int (iI k)] (MC s0 (.inl (.object "java/lang/Object", [])) handN handD gT gF alE actions alM firstFacts firstN firstD epN epD wants wantN wantD steps rows plM plA plBN plBD plLN plLD plR judged fault faultPoint vsF vsN vsD juM juP juTN juTD juO scN scD noF noN noD neF neN neD arP arB arM arU arF arR arL arT arA arS leN leD grN grD arH arLU arGU shN shD stF stN stD ((encR code (handN 0) (handD 0) (handN 1) (handD 1) epsilonN epsilonD firstFacts firstN firstD wishes wants wantN wantD actions needs needTime needOf needHow needN needD changes changeTime changeOf changeHow changeN changeD lastOf lastN lastD steps stepAction startN startD lengthN lengthD rows row tried triedAction triedRows triedRow times unit facts numN numD oldFacts oldN oldD point judged fault faultPoint toldFacts toldN toldD outN outD pointN pointD gone now leastN leastD greatestN greatestD events) ++ (OUTC x :: post))) _ _ := hc
    have hwr := w_done_ok (d := 29) k_2 (Cg.mc hcc) (k_218 mc_len)
    rw [s_218 mc_len] at hwr
    exact ⟨0, _, _, _, by omega, hwr, k_0, k_168 mc_len, c_Mo_done mc_len rS b_k (by omega), Cg.any (c_Mo_thrown mc_len), INV.of (x := _) (⟨rfl, rfl, rfl, rfl⟩) rA rG rM rE rEg rT rN hw rS rR rB rP rU rL rX rO rQ rK rI rV rY hO hD hL (by omega), ⟨_, rfl, fun _ => k_218 mc_len⟩⟩
  · skip
    exact pair_exc (⟨rfl, rfl, rfl, rfl⟩) rA rG rM rE rEg rT rN hw rS rR rB rP rU rL rX rO rQ rK rI rV rY hO hD hL hn (k := 1) (by omega) (c_PJ_done1 rS b_k hh) (fun z1 z2 => w_done_1 (d := 29) z1 z2) (fun post1 => c_Mo_done1 mc_len rS b_k (by omega)) (fun _ => ⟨_, rfl, fun z => absurd z (by decide)⟩)
theorem p_above {w : Int} {i : Int} (b_w : -2147483648 ≤ w ∧ w < 2147483648) (b_i : -2147483648 ≤ i ∧ i < 2147483648)  (h : INV s0 n mem) : Pair s0 n mem m_Law_above m_Mo_above [.ref 2, .int (iI w), .int (iI i), .ref 218] [.ref 168, .int (iI w), .int (iI i)] QL := by
  refine h _ ?_
  clear h
  intro handN handD gT gF alE alM epN epD plM plA plBN plBD plLN plLD plR vsF vsN vsD juM juP juTN juTD juO scN scD noF noN noD neF neN neD arP arB arM arU arF arR arL arT arA arS leN leD grN grD arH arLU arGU shN shD stF stN stD code amountN amountD momentN momentD epsilonN epsilonD firstFacts firstN firstD wishes wants wantN wantD actions needs needTime needOf needHow needN needD changes changeTime changeOf changeHow changeN changeD lastOf lastN lastD steps stepAction startN startD lengthN lengthD rows row tried triedAction triedRows triedRow times unit facts numN numD oldFacts oldN oldD point judged fault faultPoint toldFacts toldN toldD outN outD pointN pointD gone now leastN leastD greatestN greatestD events ab post x he rH rA rG rM rE rEg rT rN hw rS rR rB rP rU rL rX rO rQ rK rI rV rY hO hD hL hn
  subst he
  obtain ⟨rfl, rfl, rfl, rfl⟩ := rH
  by_cases hw3 : 0 ≤ w ∧ w ≤ 2
  · by_cases h2 : w = 2
    · subst h2
      by_cases hi : 0 ≤ i ∧ i ≤ 7
      · rcases rV with hv | hv
        · skip
          have hcc : Cg false 29 m_PJ_above [.ref 2, .int (iI 2), .int (iI i)] (MC s0 (.inl (.object "java/lang/Object", [])) handN handD gT gF alE actions alM firstFacts firstN firstD epN epD wants wantN wantD steps rows plM plA plBN plBD plLN plLD plR judged fault faultPoint vsF vsN vsD juM juP juTN juTD juO scN scD noF noN noD neF neN neD arP arB arM arU arF arR arL arT arA arS leN leD grN grD arH arLU arGU shN shD stF stN stD ((encR code (handN 0) (handD 0) (handN 1) (handD 1) epsilonN epsilonD firstFacts firstN firstD wishes wants wantN wantD actions needs needTime needOf needHow needN needD changes changeTime changeOf changeHow changeN changeD lastOf lastN lastD steps stepAction startN startD lengthN lengthD rows row tried triedAction triedRows triedRow times unit facts numN numD oldFacts oldN oldD point judged fault faultPoint toldFacts toldN toldD outN outD pointN pointD gone now leastN leastD greatestN greatestD events) ++ (OUTC x :: post))) _ _ := Cg.any (c_PJ_above_d rS rfl hi hv)
          have hwr := w_above_ok (d := 29) k_2 (Cg.mc hcc) (k_218 mc_len)
          rw [s_218 mc_len] at hwr
          exact ⟨0, _, _, _, by omega, hwr, k_0, k_168 mc_len, c_Mo_above_2 mc_len rS (Or.inl hv) b_i hi hv, Cg.any (c_Mo_thrown mc_len), INV.of (x := _) (⟨rfl, rfl, rfl, rfl⟩) rA rG rM rE rEg rT rN hw rS rR rB rP rU rL rX rO rQ rK rI (Or.inl hv) rY hO hD hL (by omega), ⟨_, rfl, fun _ => k_218 mc_len⟩⟩
        · obtain ⟨rfl, rfl, rfl⟩ := rY hv
          have hcc : Cg false 29 m_PJ_above [.ref 2, .int (iI 2), .int (iI i)] (MC s0 (.inl (.object "java/lang/Object", [])) handN handD gT gF alE actions alM firstFacts firstN firstD epN epD wants wantN wantD steps rows plM plA plBN plBD plLN plLD plR judged fault faultPoint vsF vsN vsD juM juP juTN juTD juO scN scD noF noN noD neF neN neD arP arB arM arU arF arR arL arT arA arS leN leD grN grD arH arLU arGU shN shD stF stN stD ((encR code (handN 0) (handD 0) (handN 1) (handD 1) epsilonN epsilonD firstFacts firstN firstD wishes wants wantN wantD actions needs needTime needOf needHow needN needD changes changeTime changeOf changeHow changeN changeD lastOf lastN lastD steps stepAction startN startD lengthN lengthD rows row tried triedAction triedRows triedRow times unit facts numN numD oldFacts oldN oldD point judged fault faultPoint vsF vsN vsD outN outD pointN pointD gone now leastN leastD greatestN greatestD events) ++ (OUTC x :: post))) _ _ := Cg.any (c_PJ_above_c rS rfl hi hv)
          have hwr := w_above_ok (d := 29) k_2 (Cg.mc hcc) (k_218 mc_len)
          rw [s_218 mc_len] at hwr
          exact ⟨0, _, _, _, by omega, hwr, k_0, k_168 mc_len, c_Mo_above_2t mc_len rS (Or.inr hv) b_i hi hv, Cg.any (c_Mo_thrown mc_len), INV.of (x := _) (⟨rfl, rfl, rfl, rfl⟩) rA rG rM rE rEg rT rN hw rS rR rB rP rU rL rX rO rQ rK rI (Or.inr hv) (fun _ => ⟨rfl, rfl, rfl⟩) hO hD hL (by omega), ⟨_, rfl, fun _ => k_218 mc_len⟩⟩
      · skip
        exact pair_exc (⟨rfl, rfl, rfl, rfl⟩) rA rG rM rE rEg rT rN hw rS rR rB rP rU rL rX rO rQ rK rI rV rY hO hD hL hn (k := 2) (by omega) (c_PJ_above2 rS b_i hw3 (Or.inl ⟨rfl, hi⟩)) (fun z1 z2 => w_above_2 (d := 29) z1 z2) (fun post1 => c_Mo_above2 mc_len rS b_w b_i hw3 (Or.inl ⟨rfl, hi⟩)) (fun _ => ⟨_, rfl, fun z => absurd z (by decide)⟩)
    · by_cases hi : 0 ≤ i ∧ i < steps
      · have hl := rL i hi.1 hi.2
        rcases (show w = 0 ∨ w = 1 by omega) with z | z <;> subst z
        · have hc : Cg false 29 m_PJ_above [.ref 2, .int (iI 0), .int (iI i)] (MC s0 (.inl (.object "java/lang/Object", [])) handN handD gT gF alE actions alM firstFacts firstN firstD epN epD wants wantN wantD steps rows plM plA plBN plBD plLN plLD plR judged fault faultPoint vsF vsN vsD juM juP juTN juTD juO scN scD noF noN noD neF neN neD arP arB arM arU arF arR arL arT arA arS leN leD grN grD arH arLU arGU shN shD stF stN stD ((encR code (handN 0) (handD 0) (handN 1) (handD 1) epsilonN epsilonD firstFacts firstN firstD wishes wants wantN wantD actions needs needTime needOf needHow needN needD changes changeTime changeOf changeHow changeN changeD lastOf lastN lastD steps stepAction startN startD lengthN lengthD rows row tried triedAction triedRows triedRow times unit facts numN numD oldFacts oldN oldD point judged fault faultPoint toldFacts toldN toldD outN outD pointN pointD gone now leastN leastD greatestN greatestD events) ++ (OUTC x :: post))) (.inl (some (.long (lI (plBN i))))) _ := Cg.any (c_PJ_above_a rS rfl hi)
          rw [hl.1] at hc
          have hcc : Cg false 29 m_PJ_above [.ref 2, .int (iI 0), .int (iI i)] (MC s0 (.inl (.object "java/lang/Object", [])) handN handD gT gF alE actions alM firstFacts firstN firstD epN epD wants wantN wantD steps rows plM plA plBN plBD plLN plLD plR judged fault faultPoint vsF vsN vsD juM juP juTN juTD juO scN scD noF noN noD neF neN neD arP arB arM arU arF arR arL arT arA arS leN leD grN grD arH arLU arGU shN shD stF stN stD ((encR code (handN 0) (handD 0) (handN 1) (handD 1) epsilonN epsilonD firstFacts firstN firstD wishes wants wantN wantD actions needs needTime needOf needHow needN needD changes changeTime changeOf changeHow changeN changeD lastOf lastN lastD steps stepAction startN startD lengthN lengthD rows row tried triedAction triedRows triedRow times unit facts numN numD oldFacts oldN oldD point judged fault faultPoint toldFacts toldN toldD outN outD pointN pointD gone now leastN leastD greatestN greatestD events) ++ (OUTC x :: post))) _ _ := hc
          have hwr := w_above_ok (d := 29) k_2 (Cg.mc hcc) (k_218 mc_len)
          rw [s_218 mc_len] at hwr
          exact ⟨0, _, _, _, by omega, hwr, k_0, k_168 mc_len, c_Mo_above_0 mc_len rS rV b_i (by omega), Cg.any (c_Mo_thrown mc_len), INV.of (x := _) (⟨rfl, rfl, rfl, rfl⟩) rA rG rM rE rEg rT rN hw rS rR rB rP rU rL rX rO rQ rK rI rV rY hO hD hL (by omega), ⟨_, rfl, fun _ => k_218 mc_len⟩⟩
        · have hc : Cg false 29 m_PJ_above [.ref 2, .int (iI 1), .int (iI i)] (MC s0 (.inl (.object "java/lang/Object", [])) handN handD gT gF alE actions alM firstFacts firstN firstD epN epD wants wantN wantD steps rows plM plA plBN plBD plLN plLD plR judged fault faultPoint vsF vsN vsD juM juP juTN juTD juO scN scD noF noN noD neF neN neD arP arB arM arU arF arR arL arT arA arS leN leD grN grD arH arLU arGU shN shD stF stN stD ((encR code (handN 0) (handD 0) (handN 1) (handD 1) epsilonN epsilonD firstFacts firstN firstD wishes wants wantN wantD actions needs needTime needOf needHow needN needD changes changeTime changeOf changeHow changeN changeD lastOf lastN lastD steps stepAction startN startD lengthN lengthD rows row tried triedAction triedRows triedRow times unit facts numN numD oldFacts oldN oldD point judged fault faultPoint toldFacts toldN toldD outN outD pointN pointD gone now leastN leastD greatestN greatestD events) ++ (OUTC x :: post))) (.inl (some (.long (lI (plLN i))))) _ := Cg.any (c_PJ_above_b rS rfl hi)
          rw [hl.2.2.1] at hc
          have hcc : Cg false 29 m_PJ_above [.ref 2, .int (iI 1), .int (iI i)] (MC s0 (.inl (.object "java/lang/Object", [])) handN handD gT gF alE actions alM firstFacts firstN firstD epN epD wants wantN wantD steps rows plM plA plBN plBD plLN plLD plR judged fault faultPoint vsF vsN vsD juM juP juTN juTD juO scN scD noF noN noD neF neN neD arP arB arM arU arF arR arL arT arA arS leN leD grN grD arH arLU arGU shN shD stF stN stD ((encR code (handN 0) (handD 0) (handN 1) (handD 1) epsilonN epsilonD firstFacts firstN firstD wishes wants wantN wantD actions needs needTime needOf needHow needN needD changes changeTime changeOf changeHow changeN changeD lastOf lastN lastD steps stepAction startN startD lengthN lengthD rows row tried triedAction triedRows triedRow times unit facts numN numD oldFacts oldN oldD point judged fault faultPoint toldFacts toldN toldD outN outD pointN pointD gone now leastN leastD greatestN greatestD events) ++ (OUTC x :: post))) _ _ := hc
          have hwr := w_above_ok (d := 29) k_2 (Cg.mc hcc) (k_218 mc_len)
          rw [s_218 mc_len] at hwr
          exact ⟨0, _, _, _, by omega, hwr, k_0, k_168 mc_len, c_Mo_above_1 mc_len rS rV b_i (by omega), Cg.any (c_Mo_thrown mc_len), INV.of (x := _) (⟨rfl, rfl, rfl, rfl⟩) rA rG rM rE rEg rT rN hw rS rR rB rP rU rL rX rO rQ rK rI rV rY hO hD hL (by omega), ⟨_, rfl, fun _ => k_218 mc_len⟩⟩
      · skip
        exact pair_exc (⟨rfl, rfl, rfl, rfl⟩) rA rG rM rE rEg rT rN hw rS rR rB rP rU rL rX rO rQ rK rI rV rY hO hD hL hn (k := 2) (by omega) (c_PJ_above2 rS b_i hw3 (Or.inr ⟨h2, hi⟩)) (fun z1 z2 => w_above_2 (d := 29) z1 z2) (fun post1 => c_Mo_above2 mc_len rS b_w b_i hw3 (Or.inr ⟨h2, by omega⟩)) (fun _ => ⟨_, rfl, fun z => absurd z (by decide)⟩)
  · skip
    exact pair_exc (⟨rfl, rfl, rfl, rfl⟩) rA rG rM rE rEg rT rN hw rS rR rB rP rU rL rX rO rQ rK rI rV rY hO hD hL hn (k := 1) (by omega) (c_PJ_above1 b_w hw3) (fun z1 z2 => w_above_1 (d := 29) z1 z2) (fun post1 => c_Mo_above1 mc_len rS b_w b_i hw3) (fun _ => ⟨_, rfl, fun z => absurd z (by decide)⟩)
theorem p_below {w : Int} {i : Int} (b_w : -2147483648 ≤ w ∧ w < 2147483648) (b_i : -2147483648 ≤ i ∧ i < 2147483648)  (h : INV s0 n mem) : Pair s0 n mem m_Law_below m_Mo_below [.ref 2, .int (iI w), .int (iI i), .ref 218] [.ref 168, .int (iI w), .int (iI i)] QL := by
  refine h _ ?_
  clear h
  intro handN handD gT gF alE alM epN epD plM plA plBN plBD plLN plLD plR vsF vsN vsD juM juP juTN juTD juO scN scD noF noN noD neF neN neD arP arB arM arU arF arR arL arT arA arS leN leD grN grD arH arLU arGU shN shD stF stN stD code amountN amountD momentN momentD epsilonN epsilonD firstFacts firstN firstD wishes wants wantN wantD actions needs needTime needOf needHow needN needD changes changeTime changeOf changeHow changeN changeD lastOf lastN lastD steps stepAction startN startD lengthN lengthD rows row tried triedAction triedRows triedRow times unit facts numN numD oldFacts oldN oldD point judged fault faultPoint toldFacts toldN toldD outN outD pointN pointD gone now leastN leastD greatestN greatestD events ab post x he rH rA rG rM rE rEg rT rN hw rS rR rB rP rU rL rX rO rQ rK rI rV rY hO hD hL hn
  subst he
  obtain ⟨rfl, rfl, rfl, rfl⟩ := rH
  by_cases hw3 : 0 ≤ w ∧ w ≤ 2
  · by_cases h2 : w = 2
    · subst h2
      by_cases hi : 0 ≤ i ∧ i ≤ 7
      · rcases rV with hv | hv
        · skip
          have hcc : Cg false 29 m_PJ_below [.ref 2, .int (iI 2), .int (iI i)] (MC s0 (.inl (.object "java/lang/Object", [])) handN handD gT gF alE actions alM firstFacts firstN firstD epN epD wants wantN wantD steps rows plM plA plBN plBD plLN plLD plR judged fault faultPoint vsF vsN vsD juM juP juTN juTD juO scN scD noF noN noD neF neN neD arP arB arM arU arF arR arL arT arA arS leN leD grN grD arH arLU arGU shN shD stF stN stD ((encR code (handN 0) (handD 0) (handN 1) (handD 1) epsilonN epsilonD firstFacts firstN firstD wishes wants wantN wantD actions needs needTime needOf needHow needN needD changes changeTime changeOf changeHow changeN changeD lastOf lastN lastD steps stepAction startN startD lengthN lengthD rows row tried triedAction triedRows triedRow times unit facts numN numD oldFacts oldN oldD point judged fault faultPoint toldFacts toldN toldD outN outD pointN pointD gone now leastN leastD greatestN greatestD events) ++ (OUTC x :: post))) _ _ := Cg.any (c_PJ_below_d rS rfl hi hv)
          have hwr := w_below_ok (d := 29) k_2 (Cg.mc hcc) (k_218 mc_len)
          rw [s_218 mc_len] at hwr
          exact ⟨0, _, _, _, by omega, hwr, k_0, k_168 mc_len, c_Mo_below_2 mc_len rS (Or.inl hv) b_i hi hv, Cg.any (c_Mo_thrown mc_len), INV.of (x := _) (⟨rfl, rfl, rfl, rfl⟩) rA rG rM rE rEg rT rN hw rS rR rB rP rU rL rX rO rQ rK rI (Or.inl hv) rY hO hD hL (by omega), ⟨_, rfl, fun _ => k_218 mc_len⟩⟩
        · obtain ⟨rfl, rfl, rfl⟩ := rY hv
          have hcc : Cg false 29 m_PJ_below [.ref 2, .int (iI 2), .int (iI i)] (MC s0 (.inl (.object "java/lang/Object", [])) handN handD gT gF alE actions alM firstFacts firstN firstD epN epD wants wantN wantD steps rows plM plA plBN plBD plLN plLD plR judged fault faultPoint vsF vsN vsD juM juP juTN juTD juO scN scD noF noN noD neF neN neD arP arB arM arU arF arR arL arT arA arS leN leD grN grD arH arLU arGU shN shD stF stN stD ((encR code (handN 0) (handD 0) (handN 1) (handD 1) epsilonN epsilonD firstFacts firstN firstD wishes wants wantN wantD actions needs needTime needOf needHow needN needD changes changeTime changeOf changeHow changeN changeD lastOf lastN lastD steps stepAction startN startD lengthN lengthD rows row tried triedAction triedRows triedRow times unit facts numN numD oldFacts oldN oldD point judged fault faultPoint vsF vsN vsD outN outD pointN pointD gone now leastN leastD greatestN greatestD events) ++ (OUTC x :: post))) _ _ := Cg.any (c_PJ_below_c rS rfl hi hv)
          have hwr := w_below_ok (d := 29) k_2 (Cg.mc hcc) (k_218 mc_len)
          rw [s_218 mc_len] at hwr
          exact ⟨0, _, _, _, by omega, hwr, k_0, k_168 mc_len, c_Mo_below_2t mc_len rS (Or.inr hv) b_i hi hv, Cg.any (c_Mo_thrown mc_len), INV.of (x := _) (⟨rfl, rfl, rfl, rfl⟩) rA rG rM rE rEg rT rN hw rS rR rB rP rU rL rX rO rQ rK rI (Or.inr hv) (fun _ => ⟨rfl, rfl, rfl⟩) hO hD hL (by omega), ⟨_, rfl, fun _ => k_218 mc_len⟩⟩
      · skip
        exact pair_exc (⟨rfl, rfl, rfl, rfl⟩) rA rG rM rE rEg rT rN hw rS rR rB rP rU rL rX rO rQ rK rI rV rY hO hD hL hn (k := 2) (by omega) (c_PJ_below2 rS b_i hw3 (Or.inl ⟨rfl, hi⟩)) (fun z1 z2 => w_below_2 (d := 29) z1 z2) (fun post1 => c_Mo_below2 mc_len rS b_w b_i hw3 (Or.inl ⟨rfl, hi⟩)) (fun _ => ⟨_, rfl, fun z => absurd z (by decide)⟩)
    · by_cases hi : 0 ≤ i ∧ i < steps
      · have hl := rL i hi.1 hi.2
        rcases (show w = 0 ∨ w = 1 by omega) with z | z <;> subst z
        · have hc : Cg false 29 m_PJ_below [.ref 2, .int (iI 0), .int (iI i)] (MC s0 (.inl (.object "java/lang/Object", [])) handN handD gT gF alE actions alM firstFacts firstN firstD epN epD wants wantN wantD steps rows plM plA plBN plBD plLN plLD plR judged fault faultPoint vsF vsN vsD juM juP juTN juTD juO scN scD noF noN noD neF neN neD arP arB arM arU arF arR arL arT arA arS leN leD grN grD arH arLU arGU shN shD stF stN stD ((encR code (handN 0) (handD 0) (handN 1) (handD 1) epsilonN epsilonD firstFacts firstN firstD wishes wants wantN wantD actions needs needTime needOf needHow needN needD changes changeTime changeOf changeHow changeN changeD lastOf lastN lastD steps stepAction startN startD lengthN lengthD rows row tried triedAction triedRows triedRow times unit facts numN numD oldFacts oldN oldD point judged fault faultPoint toldFacts toldN toldD outN outD pointN pointD gone now leastN leastD greatestN greatestD events) ++ (OUTC x :: post))) (.inl (some (.long (lI (plBD i))))) _ := Cg.any (c_PJ_below_a rS rfl hi)
          rw [hl.2.1] at hc
          have hcc : Cg false 29 m_PJ_below [.ref 2, .int (iI 0), .int (iI i)] (MC s0 (.inl (.object "java/lang/Object", [])) handN handD gT gF alE actions alM firstFacts firstN firstD epN epD wants wantN wantD steps rows plM plA plBN plBD plLN plLD plR judged fault faultPoint vsF vsN vsD juM juP juTN juTD juO scN scD noF noN noD neF neN neD arP arB arM arU arF arR arL arT arA arS leN leD grN grD arH arLU arGU shN shD stF stN stD ((encR code (handN 0) (handD 0) (handN 1) (handD 1) epsilonN epsilonD firstFacts firstN firstD wishes wants wantN wantD actions needs needTime needOf needHow needN needD changes changeTime changeOf changeHow changeN changeD lastOf lastN lastD steps stepAction startN startD lengthN lengthD rows row tried triedAction triedRows triedRow times unit facts numN numD oldFacts oldN oldD point judged fault faultPoint toldFacts toldN toldD outN outD pointN pointD gone now leastN leastD greatestN greatestD events) ++ (OUTC x :: post))) _ _ := hc
          have hwr := w_below_ok (d := 29) k_2 (Cg.mc hcc) (k_218 mc_len)
          rw [s_218 mc_len] at hwr
          exact ⟨0, _, _, _, by omega, hwr, k_0, k_168 mc_len, c_Mo_below_0 mc_len rS rV b_i (by omega), Cg.any (c_Mo_thrown mc_len), INV.of (x := _) (⟨rfl, rfl, rfl, rfl⟩) rA rG rM rE rEg rT rN hw rS rR rB rP rU rL rX rO rQ rK rI rV rY hO hD hL (by omega), ⟨_, rfl, fun _ => k_218 mc_len⟩⟩
        · have hc : Cg false 29 m_PJ_below [.ref 2, .int (iI 1), .int (iI i)] (MC s0 (.inl (.object "java/lang/Object", [])) handN handD gT gF alE actions alM firstFacts firstN firstD epN epD wants wantN wantD steps rows plM plA plBN plBD plLN plLD plR judged fault faultPoint vsF vsN vsD juM juP juTN juTD juO scN scD noF noN noD neF neN neD arP arB arM arU arF arR arL arT arA arS leN leD grN grD arH arLU arGU shN shD stF stN stD ((encR code (handN 0) (handD 0) (handN 1) (handD 1) epsilonN epsilonD firstFacts firstN firstD wishes wants wantN wantD actions needs needTime needOf needHow needN needD changes changeTime changeOf changeHow changeN changeD lastOf lastN lastD steps stepAction startN startD lengthN lengthD rows row tried triedAction triedRows triedRow times unit facts numN numD oldFacts oldN oldD point judged fault faultPoint toldFacts toldN toldD outN outD pointN pointD gone now leastN leastD greatestN greatestD events) ++ (OUTC x :: post))) (.inl (some (.long (lI (plLD i))))) _ := Cg.any (c_PJ_below_b rS rfl hi)
          rw [hl.2.2.2] at hc
          have hcc : Cg false 29 m_PJ_below [.ref 2, .int (iI 1), .int (iI i)] (MC s0 (.inl (.object "java/lang/Object", [])) handN handD gT gF alE actions alM firstFacts firstN firstD epN epD wants wantN wantD steps rows plM plA plBN plBD plLN plLD plR judged fault faultPoint vsF vsN vsD juM juP juTN juTD juO scN scD noF noN noD neF neN neD arP arB arM arU arF arR arL arT arA arS leN leD grN grD arH arLU arGU shN shD stF stN stD ((encR code (handN 0) (handD 0) (handN 1) (handD 1) epsilonN epsilonD firstFacts firstN firstD wishes wants wantN wantD actions needs needTime needOf needHow needN needD changes changeTime changeOf changeHow changeN changeD lastOf lastN lastD steps stepAction startN startD lengthN lengthD rows row tried triedAction triedRows triedRow times unit facts numN numD oldFacts oldN oldD point judged fault faultPoint toldFacts toldN toldD outN outD pointN pointD gone now leastN leastD greatestN greatestD events) ++ (OUTC x :: post))) _ _ := hc
          have hwr := w_below_ok (d := 29) k_2 (Cg.mc hcc) (k_218 mc_len)
          rw [s_218 mc_len] at hwr
          exact ⟨0, _, _, _, by omega, hwr, k_0, k_168 mc_len, c_Mo_below_1 mc_len rS rV b_i (by omega), Cg.any (c_Mo_thrown mc_len), INV.of (x := _) (⟨rfl, rfl, rfl, rfl⟩) rA rG rM rE rEg rT rN hw rS rR rB rP rU rL rX rO rQ rK rI rV rY hO hD hL (by omega), ⟨_, rfl, fun _ => k_218 mc_len⟩⟩
      · skip
        exact pair_exc (⟨rfl, rfl, rfl, rfl⟩) rA rG rM rE rEg rT rN hw rS rR rB rP rU rL rX rO rQ rK rI rV rY hO hD hL hn (k := 2) (by omega) (c_PJ_below2 rS b_i hw3 (Or.inr ⟨h2, hi⟩)) (fun z1 z2 => w_below_2 (d := 29) z1 z2) (fun post1 => c_Mo_below2 mc_len rS b_w b_i hw3 (Or.inr ⟨h2, by omega⟩)) (fun _ => ⟨_, rfl, fun z => absurd z (by decide)⟩)
  · skip
    exact pair_exc (⟨rfl, rfl, rfl, rfl⟩) rA rG rM rE rEg rT rN hw rS rR rB rP rU rL rX rO rQ rK rI rV rY hO hD hL hn (k := 1) (by omega) (c_PJ_below1 b_w hw3) (fun z1 z2 => w_below_1 (d := 29) z1 z2) (fun post1 => c_Mo_below1 mc_len rS b_w b_i hw3) (fun _ => ⟨_, rfl, fun z => absurd z (by decide)⟩)
theorem bP_zo (P : Prop) : bP P = 0 ∨ bP P = 1 := by
  unfold bP
  by_cases h : P
  · rw [if_pos h]; exact Or.inr rfl
  · rw [if_neg h]; exact Or.inl rfl
theorem p_holds {f : Int} (b_f : -2147483648 ≤ f ∧ f < 2147483648)  (h : INV s0 n mem) : Pair s0 n mem m_Law_holds m_Mo_holds [.ref 2, .int (iI f), .ref 218] [.ref 168, .int (iI f)] QZ := by
  refine h _ ?_
  clear h
  intro handN handD gT gF alE alM epN epD plM plA plBN plBD plLN plLD plR vsF vsN vsD juM juP juTN juTD juO scN scD noF noN noD neF neN neD arP arB arM arU arF arR arL arT arA arS leN leD grN grD arH arLU arGU shN shD stF stN stD code amountN amountD momentN momentD epsilonN epsilonD firstFacts firstN firstD wishes wants wantN wantD actions needs needTime needOf needHow needN needD changes changeTime changeOf changeHow changeN changeD lastOf lastN lastD steps stepAction startN startD lengthN lengthD rows row tried triedAction triedRows triedRow times unit facts numN numD oldFacts oldN oldD point judged fault faultPoint toldFacts toldN toldD outN outD pointN pointD gone now leastN leastD greatestN greatestD events ab post x he rH rA rG rM rE rEg rT rN hw rS rR rB rP rU rL rX rO rQ rK rI rV rY hO hD hL hn
  subst he
  obtain ⟨rfl, rfl, rfl, rfl⟩ := rH
  by_cases hf : 0 ≤ f ∧ f ≤ 15
  · rcases rV with hv | hv
    · skip
      have hcc : Cg false 29 m_PJ_holds [.ref 2, .int (iI f)] (MC s0 (.inl (.object "java/lang/Object", [])) handN handD gT gF alE actions alM firstFacts firstN firstD epN epD wants wantN wantD steps rows plM plA plBN plBD plLN plLD plR judged fault faultPoint vsF vsN vsD juM juP juTN juTD juO scN scD noF noN noD neF neN neD arP arB arM arU arF arR arL arT arA arS leN leD grN grD arH arLU arGU shN shD stF stN stD ((encR code (handN 0) (handD 0) (handN 1) (handD 1) epsilonN epsilonD firstFacts firstN firstD wishes wants wantN wantD actions needs needTime needOf needHow needN needD changes changeTime changeOf changeHow changeN changeD lastOf lastN lastD steps stepAction startN startD lengthN lengthD rows row tried triedAction triedRows triedRow times unit facts numN numD oldFacts oldN oldD point judged fault faultPoint toldFacts toldN toldD outN outD pointN pointD gone now leastN leastD greatestN greatestD events) ++ (OUTC x :: post))) _ _ := Cg.any (c_PJ_holds_f hf hv)
      have hwr := w_holds_ok (d := 29) k_2 (Cg.mc hcc) (k_218 mc_len) (bP_zo _)
      rw [s_218 mc_len] at hwr
      exact ⟨0, _, _, _, by omega, hwr, k_0, k_168 mc_len, c_Mo_holds_f mc_len (Or.inl hv) b_f hf hv, Cg.any (c_Mo_thrown mc_len), INV.of (x := _) (⟨rfl, rfl, rfl, rfl⟩) rA rG rM rE rEg rT rN hw rS rR rB rP rU rL rX rO rQ rK rI (Or.inl hv) rY hO hD hL (by omega), ⟨_, rfl, bP_zo _, fun _ => k_218 mc_len⟩⟩
    · obtain ⟨rfl, rfl, rfl⟩ := rY hv
      have hcc : Cg false 29 m_PJ_holds [.ref 2, .int (iI f)] (MC s0 (.inl (.object "java/lang/Object", [])) handN handD gT gF alE actions alM firstFacts firstN firstD epN epD wants wantN wantD steps rows plM plA plBN plBD plLN plLD plR judged fault faultPoint vsF vsN vsD juM juP juTN juTD juO scN scD noF noN noD neF neN neD arP arB arM arU arF arR arL arT arA arS leN leD grN grD arH arLU arGU shN shD stF stN stD ((encR code (handN 0) (handD 0) (handN 1) (handD 1) epsilonN epsilonD firstFacts firstN firstD wishes wants wantN wantD actions needs needTime needOf needHow needN needD changes changeTime changeOf changeHow changeN changeD lastOf lastN lastD steps stepAction startN startD lengthN lengthD rows row tried triedAction triedRows triedRow times unit facts numN numD oldFacts oldN oldD point judged fault faultPoint vsF vsN vsD outN outD pointN pointD gone now leastN leastD greatestN greatestD events) ++ (OUTC x :: post))) _ _ := Cg.any (c_PJ_holds_t hf hv)
      have hwr := w_holds_ok (d := 29) k_2 (Cg.mc hcc) (k_218 mc_len) (bP_zo _)
      rw [s_218 mc_len] at hwr
      exact ⟨0, _, _, _, by omega, hwr, k_0, k_168 mc_len, c_Mo_holds_t mc_len (Or.inr hv) b_f hf hv, Cg.any (c_Mo_thrown mc_len), INV.of (x := _) (⟨rfl, rfl, rfl, rfl⟩) rA rG rM rE rEg rT rN hw rS rR rB rP rU rL rX rO rQ rK rI (Or.inr hv) (fun _ => ⟨rfl, rfl, rfl⟩) hO hD hL (by omega), ⟨_, rfl, bP_zo _, fun _ => k_218 mc_len⟩⟩
  · skip
    exact pair_exc (⟨rfl, rfl, rfl, rfl⟩) rA rG rM rE rEg rT rN hw rS rR rB rP rU rL rX rO rQ rK rI rV rY hO hD hL hn (k := 1) (by omega) (c_PJ_holds1 b_f hf) (fun z1 z2 => w_holds_1 (d := 29) z1 z2) (fun post1 => c_Mo_holds1 mc_len rV b_f hf) (fun _ => ⟨_, rfl, bP_zo _, fun z => absurd z (by decide)⟩)
end R98
