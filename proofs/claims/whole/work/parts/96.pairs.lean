/-! Pairs of calls: what is told. -/
theorem wsh_rel {G : Int → Prop} {wishes : Int → Int} {f w c : Int} (hf : 0 ≤ f ∧ f ≤ 15) (h : ∀ i, 0 ≤ i → i < 24 → (G i ↔ i < 16 ∧ wishes i = c)) : ∀ i, 0 ≤ i → i < 24 → (((G i ∧ ¬ i = f) ∨ (w = c ∧ i = f)) ↔ i < 16 ∧ up1 wishes f w i = c) := by
  intro i i1 i2
  by_cases e : i = f
  · rw [e, up1_eq]
    exact ⟨fun z => z.elim (fun y => absurd rfl y.2) (fun y => ⟨by omega, y.1⟩), fun z => Or.inr ⟨z.2, rfl⟩⟩
  · rw [up1_ne _ _ e, ← h i i1 i2]
    exact ⟨fun z => z.elim (fun y => y.1) (fun y => absurd y.2 e), fun z => Or.inl ⟨z, e⟩⟩
section R96
variable {alM juP arP arB arU arF : Int}
variable {handN handD epN epD plA plBN plBD plLN plLD plR vsN vsD juTN juTD juO scN scD noN noD neN neD arR arL arT arA arS leN leD grN grD arLU arGU shN shD : Int → Int}
variable {stN stD : Int → Int → Int}
variable {stF : Int → Int → Prop}
variable {gT gF plM vsF juM noF neF arM arH : Int → Prop}
variable {alE : Nat}
variable {code amountN amountD momentN momentD epsilonN epsilonD actions steps rows tried triedRows unit point judged fault faultPoint outN outD : Int}
variable {firstN firstD wishes wants wantN wantD needs needTime needOf needHow needN needD changes changeTime changeOf changeHow changeN changeD lastOf lastN lastD stepAction startN startD lengthN lengthD row triedAction triedRow times numN numD oldN oldD toldN toldD pointN pointD leastN leastD greatestN greatestD events : Int → Int}
variable {firstFacts facts oldFacts toldFacts gone now : Int → Prop}
variable {s0 : AC} {n : Nat} {mem post : AM} {ab : Int → Nat} {x : Int64}
theorem p_amount {p : Int} {q : Int} (b_p : -2147483648 ≤ p ∧ p < 2147483648) (b_q : -2147483648 ≤ q ∧ q < 2147483648)  (h : INV s0 n mem) : Pair s0 n mem m_Law_amount m_Mo_amount [.ref 2, .int (iI p), .int (iI q)] [.ref 168, .int (iI p), .int (iI q)] QV := by
  refine h _ ?_
  clear h
  intro handN handD gT gF alE alM epN epD plM plA plBN plBD plLN plLD plR vsF vsN vsD juM juP juTN juTD juO scN scD noF noN noD neF neN neD arP arB arM arU arF arR arL arT arA arS leN leD grN grD arH arLU arGU shN shD stF stN stD code amountN amountD momentN momentD epsilonN epsilonD firstFacts firstN firstD wishes wants wantN wantD actions needs needTime needOf needHow needN needD changes changeTime changeOf changeHow changeN changeD lastOf lastN lastD steps stepAction startN startD lengthN lengthD rows row tried triedAction triedRows triedRow times unit facts numN numD oldFacts oldN oldD point judged fault faultPoint toldFacts toldN toldD outN outD pointN pointD gone now leastN leastD greatestN greatestD events ab post x he rH rA rG rM rE rEg rT rN hw rS rR rB rP rU rL rX rO rQ rK rI rV rY hO hD hL hn
  subst he
  obtain ⟨rfl, rfl, rfl, rfl⟩ := rH
  by_cases hh : -100000 ≤ p ∧ p ≤ 100000 ∧ 1 ≤ q ∧ q ≤ 1000
  · skip
    exact ⟨0, none, _, _, by omega, w_amount_ok (d := 29) k_2 (Cg.mc (c_PJ_amount hh)), k_0, k_168 mc_len, c_Mo_amount mc_len b_p b_q hh, Cg.any (c_Mo_thrown mc_len), INV.of (⟨up1_eq _ _ _, up1_eq _ _ _, up1_ne _ _ (by decide), up1_ne _ _ (by decide)⟩) (⟨nN_bd (B := 100000) (by omega) (by omega), (nD_pos (by omega)).1, Int.le_trans (nD_pos (by omega)).2 (by omega)⟩) (nlow (by omega)) rM rE rEg rT rN hw rS rR rB rP rU rL rX rO rQ rK rI rV rY hO hD hL (by omega), rfl⟩
  · skip
    exact pair_exc (⟨rfl, rfl, rfl, rfl⟩) rA rG rM rE rEg rT rN hw rS rR rB rP rU rL rX rO rQ rK rI rV rY hO hD hL hn (k := 1) (by omega) (c_PJ_amount1 b_p b_q hh) (fun z1 z2 => w_amount_1 (d := 29) z1 z2) (fun post1 => c_Mo_amount1 mc_len b_p b_q hh) (fun _ => rfl)
theorem p_moment {p : Int} {q : Int} (b_p : -2147483648 ≤ p ∧ p < 2147483648) (b_q : -2147483648 ≤ q ∧ q < 2147483648)  (h : INV s0 n mem) : Pair s0 n mem m_Law_moment m_Mo_moment [.ref 2, .int (iI p), .int (iI q)] [.ref 168, .int (iI p), .int (iI q)] QV := by
  refine h _ ?_
  clear h
  intro handN handD gT gF alE alM epN epD plM plA plBN plBD plLN plLD plR vsF vsN vsD juM juP juTN juTD juO scN scD noF noN noD neF neN neD arP arB arM arU arF arR arL arT arA arS leN leD grN grD arH arLU arGU shN shD stF stN stD code amountN amountD momentN momentD epsilonN epsilonD firstFacts firstN firstD wishes wants wantN wantD actions needs needTime needOf needHow needN needD changes changeTime changeOf changeHow changeN changeD lastOf lastN lastD steps stepAction startN startD lengthN lengthD rows row tried triedAction triedRows triedRow times unit facts numN numD oldFacts oldN oldD point judged fault faultPoint toldFacts toldN toldD outN outD pointN pointD gone now leastN leastD greatestN greatestD events ab post x he rH rA rG rM rE rEg rT rN hw rS rR rB rP rU rL rX rO rQ rK rI rV rY hO hD hL hn
  subst he
  obtain ⟨rfl, rfl, rfl, rfl⟩ := rH
  by_cases hh : -100000 ≤ p ∧ p ≤ 100000 ∧ 1 ≤ q ∧ q ≤ 1000
  · skip
    exact ⟨0, none, _, _, by omega, w_moment_ok (d := 29) k_2 (Cg.mc (c_PJ_moment hh)), k_0, k_168 mc_len, c_Mo_moment mc_len b_p b_q hh, Cg.any (c_Mo_thrown mc_len), INV.of (⟨up1_ne _ _ (by decide), up1_ne _ _ (by decide), up1_eq _ _ _, up1_eq _ _ _⟩) rA rG (⟨nN_bd (B := 100000) (by omega) (by omega), (nD_pos (by omega)).1, Int.le_trans (nD_pos (by omega)).2 (by omega)⟩) rE rEg rT rN hw rS rR rB rP rU rL rX rO rQ rK rI rV rY hO hD hL (by omega), rfl⟩
  · skip
    exact pair_exc (⟨rfl, rfl, rfl, rfl⟩) rA rG rM rE rEg rT rN hw rS rR rB rP rU rL rX rO rQ rK rI rV rY hO hD hL hn (k := 1) (by omega) (c_PJ_moment1 b_p b_q hh) (fun z1 z2 => w_moment_1 (d := 29) z1 z2) (fun post1 => c_Mo_moment1 mc_len b_p b_q hh) (fun _ => rfl)
theorem p_epsilon   (h : INV s0 n mem) : Pair s0 n mem m_Law_epsilon m_Mo_epsilon [.ref 2] [.ref 168] QV := by
  refine h _ ?_
  clear h
  intro handN handD gT gF alE alM epN epD plM plA plBN plBD plLN plLD plR vsF vsN vsD juM juP juTN juTD juO scN scD noF noN noD neF neN neD arP arB arM arU arF arR arL arT arA arS leN leD grN grD arH arLU arGU shN shD stF stN stD code amountN amountD momentN momentD epsilonN epsilonD firstFacts firstN firstD wishes wants wantN wantD actions needs needTime needOf needHow needN needD changes changeTime changeOf changeHow changeN changeD lastOf lastN lastD steps stepAction startN startD lengthN lengthD rows row tried triedAction triedRows triedRow times unit facts numN numD oldFacts oldN oldD point judged fault faultPoint toldFacts toldN toldD outN outD pointN pointD gone now leastN leastD greatestN greatestD events ab post x he rH rA rG rM rE rEg rT rN hw rS rR rB rP rU rL rX rO rQ rK rI rV rY hO hD hL hn
  subst he
  obtain ⟨rfl, rfl, rfl, rfl⟩ := rH
  by_cases hh : 0 < handN 0
  · skip
    exact ⟨0, none, _, _, by omega, w_epsilon_ok (d := 29) k_2 (Cg.mc (c_PJ_epsilon (by omega) hh)), k_0, k_168 mc_len, c_Mo_epsilon mc_len (by omega) hh, Cg.any (c_Mo_thrown mc_len), INV.of (⟨rfl, rfl, rfl, rfl⟩) rA rG rM (⟨up1_eq _ _ _, up1_eq _ _ _⟩) (rG) rT rN (WT_eps hw rA hh) rS rR rB rP rU rL rX rO rQ rK rI rV rY hO hD hL (by omega), rfl⟩
  · skip
    exact pair_exc (⟨rfl, rfl, rfl, rfl⟩) rA rG rM rE rEg rT rN hw rS rR rB rP rU rL rX rO rQ rK rI rV rY hO hD hL hn (k := 1) (by omega) (c_PJ_epsilon1 (by omega) hh) (fun z1 z2 => w_epsilon_1 (d := 29) z1 z2) (fun post1 => c_Mo_epsilon1 mc_len (by omega) hh) (fun _ => rfl)
theorem p_fact {f : Int} {v : Prop} (b_f : -2147483648 ≤ f ∧ f < 2147483648)  (h : INV s0 n mem) : Pair s0 n mem m_Law_fact m_Mo_fact [.ref 2, .int (iI f), .int (bP v)] [.ref 168, .int (iI f), .int (bP v)] QV := by
  refine h _ ?_
  clear h
  intro handN handD gT gF alE alM epN epD plM plA plBN plBD plLN plLD plR vsF vsN vsD juM juP juTN juTD juO scN scD noF noN noD neF neN neD arP arB arM arU arF arR arL arT arA arS leN leD grN grD arH arLU arGU shN shD stF stN stD code amountN amountD momentN momentD epsilonN epsilonD firstFacts firstN firstD wishes wants wantN wantD actions needs needTime needOf needHow needN needD changes changeTime changeOf changeHow changeN changeD lastOf lastN lastD steps stepAction startN startD lengthN lengthD rows row tried triedAction triedRows triedRow times unit facts numN numD oldFacts oldN oldD point judged fault faultPoint toldFacts toldN toldD outN outD pointN pointD gone now leastN leastD greatestN greatestD events ab post x he rH rA rG rM rE rEg rT rN hw rS rR rB rP rU rL rX rO rQ rK rI rV rY hO hD hL hn
  subst he
  obtain ⟨rfl, rfl, rfl, rfl⟩ := rH
  by_cases hh : 0 ≤ f ∧ f ≤ 15
  · skip
    exact ⟨0, none, _, _, by omega, w_fact_ok (d := 29) k_2 (Cg.mc (c_PJ_fact hh)), k_0, k_168 mc_len, c_Mo_fact mc_len b_f hh, Cg.any (c_Mo_thrown mc_len), INV.of (⟨rfl, rfl, rfl, rfl⟩) rA rG rM rE rEg rT rN hw rS rR rB rP rU rL rX rO rQ rK rI rV rY hO hD hL (by omega), rfl⟩
  · skip
    exact pair_exc (⟨rfl, rfl, rfl, rfl⟩) rA rG rM rE rEg rT rN hw rS rR rB rP rU rL rX rO rQ rK rI rV rY hO hD hL hn (k := 1) (by omega) (c_PJ_fact1 b_f hh) (fun z1 z2 => w_fact_1 (d := 29) z1 z2) (fun post1 => c_Mo_fact1 mc_len b_f hh) (fun _ => rfl)
theorem p_number {f : Int} (b_f : -2147483648 ≤ f ∧ f < 2147483648)  (h : INV s0 n mem) : Pair s0 n mem m_Law_number m_Mo_number [.ref 2, .int (iI f)] [.ref 168, .int (iI f)] QV := by
  refine h _ ?_
  clear h
  intro handN handD gT gF alE alM epN epD plM plA plBN plBD plLN plLD plR vsF vsN vsD juM juP juTN juTD juO scN scD noF noN noD neF neN neD arP arB arM arU arF arR arL arT arA arS leN leD grN grD arH arLU arGU shN shD stF stN stD code amountN amountD momentN momentD epsilonN epsilonD firstFacts firstN firstD wishes wants wantN wantD actions needs needTime needOf needHow needN needD changes changeTime changeOf changeHow changeN changeD lastOf lastN lastD steps stepAction startN startD lengthN lengthD rows row tried triedAction triedRows triedRow times unit facts numN numD oldFacts oldN oldD point judged fault faultPoint toldFacts toldN toldD outN outD pointN pointD gone now leastN leastD greatestN greatestD events ab post x he rH rA rG rM rE rEg rT rN hw rS rR rB rP rU rL rX rO rQ rK rI rV rY hO hD hL hn
  subst he
  obtain ⟨rfl, rfl, rfl, rfl⟩ := rH
  by_cases hh : 0 ≤ f ∧ f ≤ 7
  · skip
    exact ⟨0, none, _, _, by omega, w_number_ok (d := 29) k_2 (Cg.mc (c_PJ_number hh)), k_0, k_168 mc_len, c_Mo_number mc_len b_f hh, Cg.any (c_Mo_thrown mc_len), INV.of (⟨rfl, rfl, rfl, rfl⟩) rA rG rM rE rEg rT rN (WT_first hw rA) rS rR rB rP rU rL rX rO rQ rK rI rV rY hO hD hL (by omega), rfl⟩
  · skip
    exact pair_exc (⟨rfl, rfl, rfl, rfl⟩) rA rG rM rE rEg rT rN hw rS rR rB rP rU rL rX rO rQ rK rI rV rY hO hD hL hn (k := 1) (by omega) (c_PJ_number1 b_f hh) (fun z1 z2 => w_number_1 (d := 29) z1 z2) (fun post1 => c_Mo_number1 mc_len b_f hh) (fun _ => rfl)
theorem p_wish {f : Int} {w : Int} (b_f : -2147483648 ≤ f ∧ f < 2147483648) (b_w : -2147483648 ≤ w ∧ w < 2147483648)  (h : INV s0 n mem) : Pair s0 n mem m_Law_wish m_Mo_wish [.ref 2, .int (iI f), .int (iI w)] [.ref 168, .int (iI f), .int (iI w)] QV := by
  refine h _ ?_
  clear h
  intro handN handD gT gF alE alM epN epD plM plA plBN plBD plLN plLD plR vsF vsN vsD juM juP juTN juTD juO scN scD noF noN noD neF neN neD arP arB arM arU arF arR arL arT arA arS leN leD grN grD arH arLU arGU shN shD stF stN stD code amountN amountD momentN momentD epsilonN epsilonD firstFacts firstN firstD wishes wants wantN wantD actions needs needTime needOf needHow needN needD changes changeTime changeOf changeHow changeN changeD lastOf lastN lastD steps stepAction startN startD lengthN lengthD rows row tried triedAction triedRows triedRow times unit facts numN numD oldFacts oldN oldD point judged fault faultPoint toldFacts toldN toldD outN outD pointN pointD gone now leastN leastD greatestN greatestD events ab post x he rH rA rG rM rE rEg rT rN hw rS rR rB rP rU rL rX rO rQ rK rI rV rY hO hD hL hn
  subst he
  obtain ⟨rfl, rfl, rfl, rfl⟩ := rH
  by_cases hh : 0 ≤ f ∧ f ≤ 15
  · by_cases h2 : -1 ≤ w ∧ w ≤ 1
    · skip
      exact ⟨0, none, _, _, by omega, w_wish_ok (d := 29) k_2 (Cg.mc (c_PJ_wish hh h2)), k_0, k_168 mc_len, c_Mo_wish mc_len b_f b_w hh h2, Cg.any (c_Mo_thrown mc_len), INV.of (⟨rfl, rfl, rfl, rfl⟩) rA rG rM rE rEg (wsh_rel hh rT) (wsh_rel hh rN) (WT_wish hw h2) rS rR rB rP rU rL rX rO rQ rK rI rV rY hO hD hL (by omega), rfl⟩
    · skip
      exact pair_exc (⟨rfl, rfl, rfl, rfl⟩) rA rG rM rE rEg rT rN hw rS rR rB rP rU rL rX rO rQ rK rI rV rY hO hD hL hn (k := 2) (by omega) (c_PJ_wish2 b_w hh h2) (fun z1 z2 => w_wish_2 (d := 29) z1 z2) (fun post1 => c_Mo_wish2 mc_len b_f b_w hh h2) (fun _ => rfl)
  · skip
    exact pair_exc (⟨rfl, rfl, rfl, rfl⟩) rA rG rM rE rEg rT rN hw rS rR rB rP rU rL rX rO rQ rK rI rV rY hO hD hL hn (k := 1) (by omega) (c_PJ_wish1 b_f hh) (fun z1 z2 => w_wish_1 (d := 29) z1 z2) (fun post1 => c_Mo_wish1 mc_len b_f b_w hh) (fun _ => rfl)
theorem p_want {f : Int} {w : Int} (b_f : -2147483648 ≤ f ∧ f < 2147483648) (b_w : -2147483648 ≤ w ∧ w < 2147483648)  (h : INV s0 n mem) : Pair s0 n mem m_Law_want m_Mo_want [.ref 2, .int (iI f), .int (iI w)] [.ref 168, .int (iI f), .int (iI w)] QV := by
  refine h _ ?_
  clear h
  intro handN handD gT gF alE alM epN epD plM plA plBN plBD plLN plLD plR vsF vsN vsD juM juP juTN juTD juO scN scD noF noN noD neF neN neD arP arB arM arU arF arR arL arT arA arS leN leD grN grD arH arLU arGU shN shD stF stN stD code amountN amountD momentN momentD epsilonN epsilonD firstFacts firstN firstD wishes wants wantN wantD actions needs needTime needOf needHow needN needD changes changeTime changeOf changeHow changeN changeD lastOf lastN lastD steps stepAction startN startD lengthN lengthD rows row tried triedAction triedRows triedRow times unit facts numN numD oldFacts oldN oldD point judged fault faultPoint toldFacts toldN toldD outN outD pointN pointD gone now leastN leastD greatestN greatestD events ab post x he rH rA rG rM rE rEg rT rN hw rS rR rB rP rU rL rX rO rQ rK rI rV rY hO hD hL hn
  subst he
  obtain ⟨rfl, rfl, rfl, rfl⟩ := rH
  by_cases hh : 0 ≤ f ∧ f ≤ 7
  · by_cases h2 : -1 ≤ w ∧ w ≤ 4
    · skip
      exact ⟨0, none, _, _, by omega, w_want_ok (d := 29) k_2 (Cg.mc (c_PJ_want hh h2)), k_0, k_168 mc_len, c_Mo_want mc_len b_f b_w hh h2, Cg.any (c_Mo_thrown mc_len), INV.of (⟨rfl, rfl, rfl, rfl⟩) rA rG rM rE rEg rT rN (WT_want hw rA h2) rS rR rB rP rU rL rX rO rQ rK rI rV rY hO hD hL (by omega), rfl⟩
    · skip
      exact pair_exc (⟨rfl, rfl, rfl, rfl⟩) rA rG rM rE rEg rT rN hw rS rR rB rP rU rL rX rO rQ rK rI rV rY hO hD hL hn (k := 2) (by omega) (c_PJ_want2 b_w hh h2) (fun z1 z2 => w_want_2 (d := 29) z1 z2) (fun post1 => c_Mo_want2 mc_len b_f b_w hh h2) (fun _ => rfl)
  · skip
    exact pair_exc (⟨rfl, rfl, rfl, rfl⟩) rA rG rM rE rEg rT rN hw rS rR rB rP rU rL rX rO rQ rK rI rV rY hO hD hL hn (k := 1) (by omega) (c_PJ_want1 b_f hh) (fun z1 z2 => w_want_1 (d := 29) z1 z2) (fun post1 => c_Mo_want1 mc_len b_f b_w hh) (fun _ => rfl)
end R96
