/-! Class and reference side by side: what the invariant gives. -/
section R95
variable {alM juP arP arB arU arF : Int}
variable {handN handD epN epD plA plBN plBD plLN plLD plR vsN vsD juTN juTD juO scN scD noN noD neN neD arR arL arT arA arS leN leD grN grD arLU arGU shN shD : Int → Int}
variable {stN stD : Int → Int → Int}
variable {stF : Int → Int → Prop}
variable {gT gF plM vsF juM noF neF arM arH : Int → Prop}
variable {alE : Nat}
variable {code amountN amountD momentN momentD epsilonN epsilonD actions steps rows tried triedRows unit point judged fault faultPoint outN outD : Int}
variable {firstN firstD wishes wants wantN wantD needs needTime needOf needHow needN needD changes changeTime changeOf changeHow changeN changeD lastOf lastN lastD stepAction startN startD lengthN lengthD row triedAction triedRow times numN numD oldN oldD toldN toldD pointN pointD leastN leastD greatestN greatestD events : Int → Int}
variable {firstFacts facts oldFacts toldFacts gone now : Int → Prop}
variable {s0 : AC} {n : Nat} {mem post : AM} {ab : Int → Nat} {x : Int64}
theorem INV.k0 (h : INV s0 n mem) : mem[0]? = some s0 := by
  refine h _ ?_
  clear h
  intro handN handD gT gF alE alM epN epD plM plA plBN plBD plLN plLD plR vsF vsN vsD juM juP juTN juTD juO scN scD noF noN noD neF neN neD arP arB arM arU arF arR arL arT arA arS leN leD grN grD arH arLU arGU shN shD stF stN stD code amountN amountD momentN momentD epsilonN epsilonD firstFacts firstN firstD wishes wants wantN wantD actions needs needTime needOf needHow needN needD changes changeTime changeOf changeHow changeN changeD lastOf lastN lastD steps stepAction startN startD lengthN lengthD rows row tried triedAction triedRows triedRow times unit facts numN numD oldFacts oldN oldD point judged fault faultPoint toldFacts toldN toldD outN outD pointN pointD gone now leastN leastD greatestN greatestD events ab post x he rH rA rG rM rE rEg rT rN hw rS rR rB rP rU rL rX rO rQ rK rI rV rY hO hD hL hn
  subst he
  exact k_0
theorem INV.k168 (h : INV s0 n mem) : ∃ fs, mem[168]? = some (.inr (10, fs)) := by
  refine h _ ?_
  clear h
  intro handN handD gT gF alE alM epN epD plM plA plBN plBD plLN plLD plR vsF vsN vsD juM juP juTN juTD juO scN scD noF noN noD neF neN neD arP arB arM arU arF arR arL arT arA arS leN leD grN grD arH arLU arGU shN shD stF stN stD code amountN amountD momentN momentD epsilonN epsilonD firstFacts firstN firstD wishes wants wantN wantD actions needs needTime needOf needHow needN needD changes changeTime changeOf changeHow changeN changeD lastOf lastN lastD steps stepAction startN startD lengthN lengthD rows row tried triedAction triedRows triedRow times unit facts numN numD oldFacts oldN oldD point judged fault faultPoint toldFacts toldN toldD outN outD pointN pointD gone now leastN leastD greatestN greatestD events ab post x he rH rA rG rM rE rEg rT rN hw rS rR rB rP rU rL rX rO rQ rK rI rV rY hO hD hL hn
  subst he
  exact k_168 mc_len
theorem INV.k2 (h : INV s0 n mem) : ∃ fs, mem[2]? = some (.inr (0, fs)) := by
  refine h _ ?_
  clear h
  intro handN handD gT gF alE alM epN epD plM plA plBN plBD plLN plLD plR vsF vsN vsD juM juP juTN juTD juO scN scD noF noN noD neF neN neD arP arB arM arU arF arR arL arT arA arS leN leD grN grD arH arLU arGU shN shD stF stN stD code amountN amountD momentN momentD epsilonN epsilonD firstFacts firstN firstD wishes wants wantN wantD actions needs needTime needOf needHow needN needD changes changeTime changeOf changeHow changeN changeD lastOf lastN lastD steps stepAction startN startD lengthN lengthD rows row tried triedAction triedRows triedRow times unit facts numN numD oldFacts oldN oldD point judged fault faultPoint toldFacts toldN toldD outN outD pointN pointD gone now leastN leastD greatestN greatestD events ab post x he rH rA rG rM rE rEg rT rN hw rS rR rB rP rU rL rX rO rQ rK rI rV rY hO hD hL hn
  subst he
  exact ⟨_, k_2⟩
theorem INV.len (h : INV s0 n mem) : mem.length ≤ 219 + 30 * n := by
  refine h _ ?_
  clear h
  intro handN handD gT gF alE alM epN epD plM plA plBN plBD plLN plLD plR vsF vsN vsD juM juP juTN juTD juO scN scD noF noN noD neF neN neD arP arB arM arU arF arR arL arT arA arS leN leD grN grD arH arLU arGU shN shD stF stN stD code amountN amountD momentN momentD epsilonN epsilonD firstFacts firstN firstD wishes wants wantN wantD actions needs needTime needOf needHow needN needD changes changeTime changeOf changeHow changeN changeD lastOf lastN lastD steps stepAction startN startD lengthN lengthD rows row tried triedAction triedRows triedRow times unit facts numN numD oldFacts oldN oldD point judged fault faultPoint toldFacts toldN toldD outN outD pointN pointD gone now leastN leastD greatestN greatestD events ab post x he rH rA rG rM rE rEg rT rN hw rS rR rB rP rU rL rX rO rQ rK rI rV rY hO hD hL hn
  subst he
  unfold MR
  rw [List.length_append, mc_len, List.length_append, encR_len, List.length_cons]
  omega
end R95
