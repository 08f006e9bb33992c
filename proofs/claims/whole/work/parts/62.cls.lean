/-! The class in memory: its objects at 2..67, the states of the arranger at 68..167, then the rest. -/
noncomputable def stc (stF : Int → Int → Prop) (stN stD : Int → Int → Int) (j : Nat) : AC := if j % 4 = 0 then .inr (6, [.int (mk (stF ((j / 4 : Nat) : Int))), .ref (69 + 4 * (j / 4))]) else if j % 4 = 1 then .inr (3, [.ref (70 + 4 * (j / 4)), .ref (71 + 4 * (j / 4))]) else if j % 4 = 2 then .inl (.long, aL 8 (stN ((j / 4 : Nat) : Int))) else .inl (.long, aL 8 (stD ((j / 4 : Nat) : Int)))
noncomputable def SB (stF : Int → Int → Prop) (stN stD : Int → Int → Int) : AM := (List.range 100).map (stc stF stN stD)
noncomputable def encC (s0 s1 : AC) (handN : Int → Int) (handD : Int → Int) (gT : Int → Prop) (gF : Int → Prop) (alE : Nat) (alS : Int) (alM : Int) (fiF : Int → Prop) (fiN : Int → Int) (fiD : Int → Int) (epN : Int → Int) (epD : Int → Int) (goH : Int → Int) (goN : Int → Int) (goD : Int → Int) (plS : Int) (plP : Int) (plM : Int → Prop) (plA : Int → Int) (plBN : Int → Int) (plBD : Int → Int) (plLN : Int → Int) (plLD : Int → Int) (plR : Int → Int) (veW : Int) (veF : Int) (veP : Int) (vsF : Int → Prop) (vsN : Int → Int) (vsD : Int → Int) (juM : Int → Prop) (juP : Int) (juTN : Int → Int) (juTD : Int → Int) (juO : Int → Int) (scN : Int → Int) (scD : Int → Int) (noF : Int → Prop) (noN : Int → Int) (noD : Int → Int) (neF : Int → Prop) (neN : Int → Int) (neD : Int → Int) (arP : Int) (arB : Int) (arM : Int → Prop) (arU : Int) (arF : Int) (arR : Int → Int) (arL : Int → Int) (arT : Int → Int) (arA : Int → Int) (arS : Int → Int) (leN : Int → Int) (leD : Int → Int) (grN : Int → Int) (grD : Int → Int) (arH : Int → Prop) (arLU : Int → Int) (arGU : Int → Int) (shN : Int → Int) (shD : Int → Int) : AM := [s0, s1, .inr (0, [.ref 3, .ref 6, .ref 19, .ref 28, .ref 33, .ref 49]), .inr (3, [.ref 4, .ref 5]), .inl (.long, aL 2 handN), .inl (.long, aL 2 handD), .inr (7, [.ref 7, .ref 8, .ref 12, .int (mk gT), .int (mk gF), .ref 15, .ref 16]), .inr (11, [.ref alE, .int (iI alS), .int (iI alM)]), .inr (6, [.int (mk fiF), .ref 9]), .inr (3, [.ref 10, .ref 11]), .inl (.long, aL 8 fiN), .inl (.long, aL 8 fiD), .inr (3, [.ref 13, .ref 14]), .inl (.long, aL 1 epN), .inl (.long, aL 1 epD), .inl (.int, aI 8 goH), .inr (3, [.ref 17, .ref 18]), .inl (.long, aL 8 goN), .inl (.long, aL 8 goD), .inr (5, [.int (iI plS), .ref 20, .ref 21, .ref 24, .int (iI plP), .ref 27, .int (mk plM)]), .inl (.int, aI 12 plA), .inr (3, [.ref 22, .ref 23]), .inl (.long, aL 12 plBN), .inl (.long, aL 12 plBD), .inr (3, [.ref 25, .ref 26]), .inl (.long, aL 12 plLN), .inl (.long, aL 12 plLD), .inl (.int, aI 24 plR), .inr (9, [.int (iI veW), .int (iI veF), .int (iI veP), .ref 29]), .inr (6, [.int (mk vsF), .ref 30]), .inr (3, [.ref 31, .ref 32]), .inl (.long, aL 8 vsN), .inl (.long, aL 8 vsD), .inr (4, [.ref 34, .ref 37, .ref 38, .ref 41, .ref 45, .int (mk juM), .int (iI juP)]), .inr (3, [.ref 35, .ref 36]), .inl (.long, aL 24 juTN), .inl (.long, aL 24 juTD), .inl (.int, aI 24 juO), .inr (3, [.ref 39, .ref 40]), .inl (.long, aL 1 scN), .inl (.long, aL 1 scD), .inr (6, [.int (mk noF), .ref 42]), .inr (3, [.ref 43, .ref 44]), .inl (.long, aL 8 noN), .inl (.long, aL 8 noD), .inr (6, [.int (mk neF), .ref 46]), .inr (3, [.ref 47, .ref 48]), .inl (.long, aL 8 neN), .inl (.long, aL 8 neD), .inr (2, [.ref 50, .int (iI arP), .ref 51, .ref 52, .ref 53, .int (iI arB), .int (mk arM), .ref 54, .ref 55, .ref 56, .ref 59, .ref 62, .ref 63, .ref 64, .long (lI arU), .ref 65, .int (iI arF)]), .inl (.object "PlanJudge$State", (List.range 25).map (fun k : Nat => Value.ref (68 + 4 * k))), .inl (.int, aI 24 arR), .inl (.int, aI 24 arL), .inl (.long, aL 24 arT), .inl (.int, aI 12 arA), .inl (.int, aI 12 arS), .inr (3, [.ref 57, .ref 58]), .inl (.long, aL 12 leN), .inl (.long, aL 12 leD), .inr (3, [.ref 60, .ref 61]), .inl (.long, aL 12 grN), .inl (.long, aL 12 grD), .inl (.boolean, aZ 12 arH), .inl (.long, aL 12 arLU), .inl (.long, aL 12 arGU), .inr (3, [.ref 66, .ref 67]), .inl (.long, aL 1 shN), .inl (.long, aL 1 shD)]
noncomputable def MC (s0 s1 : AC) (handN : Int → Int) (handD : Int → Int) (gT : Int → Prop) (gF : Int → Prop) (alE : Nat) (alS : Int) (alM : Int) (fiF : Int → Prop) (fiN : Int → Int) (fiD : Int → Int) (epN : Int → Int) (epD : Int → Int) (goH : Int → Int) (goN : Int → Int) (goD : Int → Int) (plS : Int) (plP : Int) (plM : Int → Prop) (plA : Int → Int) (plBN : Int → Int) (plBD : Int → Int) (plLN : Int → Int) (plLD : Int → Int) (plR : Int → Int) (veW : Int) (veF : Int) (veP : Int) (vsF : Int → Prop) (vsN : Int → Int) (vsD : Int → Int) (juM : Int → Prop) (juP : Int) (juTN : Int → Int) (juTD : Int → Int) (juO : Int → Int) (scN : Int → Int) (scD : Int → Int) (noF : Int → Prop) (noN : Int → Int) (noD : Int → Int) (neF : Int → Prop) (neN : Int → Int) (neD : Int → Int) (arP : Int) (arB : Int) (arM : Int → Prop) (arU : Int) (arF : Int) (arR : Int → Int) (arL : Int → Int) (arT : Int → Int) (arA : Int → Int) (arS : Int → Int) (leN : Int → Int) (leD : Int → Int) (grN : Int → Int) (grD : Int → Int) (arH : Int → Prop) (arLU : Int → Int) (arGU : Int → Int) (shN : Int → Int) (shD : Int → Int) (stF : Int → Int → Prop) (stN : Int → Int → Int) (stD : Int → Int → Int) (rest : AM) : AM := encC s0 s1 handN handD gT gF alE alS alM fiF fiN fiD epN epD goH goN goD plS plP plM plA plBN plBD plLN plLD plR veW veF veP vsF vsN vsD juM juP juTN juTD juO scN scD noF noN noD neF neN neD arP arB arM arU arF arR arL arT arA arS leN leD grN grD arH arLU arGU shN shD ++ (SB stF stN stD ++ rest)
section CLS
variable {s0 s1 : AC} {rest : AM}
variable {alS alM plS plP veW veF veP juP arP arB arU arF : Int}
variable {handN handD fiN fiD epN epD goH goN goD plA plBN plBD plLN plLD plR vsN vsD juTN juTD juO scN scD noN noD neN neD arR arL arT arA arS leN leD grN grD arLU arGU shN shD : Int → Int}
variable {stN stD : Int → Int → Int}
variable {stF : Int → Int → Prop}
variable {gT gF fiF plM vsF juM noF neF arM arH : Int → Prop}
variable {alE : Nat}
theorem encC_len : (encC s0 s1 handN handD gT gF alE alS alM fiF fiN fiD epN epD goH goN goD plS plP plM plA plBN plBD plLN plLD plR veW veF veP vsF vsN vsD juM juP juTN juTD juO scN scD noF noN noD neF neN neD arP arB arM arU arF arR arL arT arA arS leN leD grN grD arH arLU arGU shN shD).length = 68 := rfl
theorem gC_2 : (MC s0 s1 handN handD gT gF alE alS alM fiF fiN fiD epN epD goH goN goD plS plP plM plA plBN plBD plLN plLD plR veW veF veP vsF vsN vsD juM juP juTN juTD juO scN scD noF noN noD neF neN neD arP arB arM arU arF arR arL arT arA arS leN leD grN grD arH arLU arGU shN shD stF stN stD rest)[2]? = some (.inr (0, [.ref 3, .ref 6, .ref 19, .ref 28, .ref 33, .ref 49])) := by
  unfold MC encC
  rfl
theorem gC_3 : (MC s0 s1 handN handD gT gF alE alS alM fiF fiN fiD epN epD goH goN goD plS plP plM plA plBN plBD plLN plLD plR veW veF veP vsF vsN vsD juM juP juTN juTD juO scN scD noF noN noD neF neN neD arP arB arM arU arF arR arL arT arA arS leN leD grN grD arH arLU arGU shN shD stF stN stD rest)[3]? = some (.inr (3, [.ref 4, .ref 5])) := by
  unfold MC encC
  rfl
theorem gC_4 : (MC s0 s1 handN handD gT gF alE alS alM fiF fiN fiD epN epD goH goN goD plS plP plM plA plBN plBD plLN plLD plR veW veF veP vsF vsN vsD juM juP juTN juTD juO scN scD noF noN noD neF neN neD arP arB arM arU arF arR arL arT arA arS leN leD grN grD arH arLU arGU shN shD stF stN stD rest)[4]? = some (.inl (.long, aL 2 handN)) := by
  unfold MC encC
  rfl
theorem gC_5 : (MC s0 s1 handN handD gT gF alE alS alM fiF fiN fiD epN epD goH goN goD plS plP plM plA plBN plBD plLN plLD plR veW veF veP vsF vsN vsD juM juP juTN juTD juO scN scD noF noN noD neF neN neD arP arB arM arU arF arR arL arT arA arS leN leD grN grD arH arLU arGU shN shD stF stN stD rest)[5]? = some (.inl (.long, aL 2 handD)) := by
  unfold MC encC
  rfl
theorem gC_6 : (MC s0 s1 handN handD gT gF alE alS alM fiF fiN fiD epN epD goH goN goD plS plP plM plA plBN plBD plLN plLD plR veW veF veP vsF vsN vsD juM juP juTN juTD juO scN scD noF noN noD neF neN neD arP arB arM arU arF arR arL arT arA arS leN leD grN grD arH arLU arGU shN shD stF stN stD rest)[6]? = some (.inr (7, [.ref 7, .ref 8, .ref 12, .int (mk gT), .int (mk gF), .ref 15, .ref 16])) := by
  unfold MC encC
  rfl
theorem gC_7 : (MC s0 s1 handN handD gT gF alE alS alM fiF fiN fiD epN epD goH goN goD plS plP plM plA plBN plBD plLN plLD plR veW veF veP vsF vsN vsD juM juP juTN juTD juO scN scD noF noN noD neF neN neD arP arB arM arU arF arR arL arT arA arS leN leD grN grD arH arLU arGU shN shD stF stN stD rest)[7]? = some (.inr (11, [.ref alE, .int (iI alS), .int (iI alM)])) := by
  unfold MC encC
  rfl
theorem gC_8 : (MC s0 s1 handN handD gT gF alE alS alM fiF fiN fiD epN epD goH goN goD plS plP plM plA plBN plBD plLN plLD plR veW veF veP vsF vsN vsD juM juP juTN juTD juO scN scD noF noN noD neF neN neD arP arB arM arU arF arR arL arT arA arS leN leD grN grD arH arLU arGU shN shD stF stN stD rest)[8]? = some (.inr (6, [.int (mk fiF), .ref 9])) := by
  unfold MC encC
  rfl
theorem gC_9 : (MC s0 s1 handN handD gT gF alE alS alM fiF fiN fiD epN epD goH goN goD plS plP plM plA plBN plBD plLN plLD plR veW veF veP vsF vsN vsD juM juP juTN juTD juO scN scD noF noN noD neF neN neD arP arB arM arU arF arR arL arT arA arS leN leD grN grD arH arLU arGU shN shD stF stN stD rest)[9]? = some (.inr (3, [.ref 10, .ref 11])) := by
  unfold MC encC
  rfl
theorem gC_10 : (MC s0 s1 handN handD gT gF alE alS alM fiF fiN fiD epN epD goH goN goD plS plP plM plA plBN plBD plLN plLD plR veW veF veP vsF vsN vsD juM juP juTN juTD juO scN scD noF noN noD neF neN neD arP arB arM arU arF arR arL arT arA arS leN leD grN grD arH arLU arGU shN shD stF stN stD rest)[10]? = some (.inl (.long, aL 8 fiN)) := by
  unfold MC encC
  rfl
theorem gC_11 : (MC s0 s1 handN handD gT gF alE alS alM fiF fiN fiD epN epD goH goN goD plS plP plM plA plBN plBD plLN plLD plR veW veF veP vsF vsN vsD juM juP juTN juTD juO scN scD noF noN noD neF neN neD arP arB arM arU arF arR arL arT arA arS leN leD grN grD arH arLU arGU shN shD stF stN stD rest)[11]? = some (.inl (.long, aL 8 fiD)) := by
  unfold MC encC
  rfl
theorem gC_12 : (MC s0 s1 handN handD gT gF alE alS alM fiF fiN fiD epN epD goH goN goD plS plP plM plA plBN plBD plLN plLD plR veW veF veP vsF vsN vsD juM juP juTN juTD juO scN scD noF noN noD neF neN neD arP arB arM arU arF arR arL arT arA arS leN leD grN grD arH arLU arGU shN shD stF stN stD rest)[12]? = some (.inr (3, [.ref 13, .ref 14])) := by
  unfold MC encC
  rfl
theorem gC_13 : (MC s0 s1 handN handD gT gF alE alS alM fiF fiN fiD epN epD goH goN goD plS plP plM plA plBN plBD plLN plLD plR veW veF veP vsF vsN vsD juM juP juTN juTD juO scN scD noF noN noD neF neN neD arP arB arM arU arF arR arL arT arA arS leN leD grN grD arH arLU arGU shN shD stF stN stD rest)[13]? = some (.inl (.long, aL 1 epN)) := by
  unfold MC encC
  rfl
theorem gC_14 : (MC s0 s1 handN handD gT gF alE alS alM fiF fiN fiD epN epD goH goN goD plS plP plM plA plBN plBD plLN plLD plR veW veF veP vsF vsN vsD juM juP juTN juTD juO scN scD noF noN noD neF neN neD arP arB arM arU arF arR arL arT arA arS leN leD grN grD arH arLU arGU shN shD stF stN stD rest)[14]? = some (.inl (.long, aL 1 epD)) := by
  unfold MC encC
  rfl
theorem gC_15 : (MC s0 s1 handN handD gT gF alE alS alM fiF fiN fiD epN epD goH goN goD plS plP plM plA plBN plBD plLN plLD plR veW veF veP vsF vsN vsD juM juP juTN juTD juO scN scD noF noN noD neF neN neD arP arB arM arU arF arR arL arT arA arS leN leD grN grD arH arLU arGU shN shD stF stN stD rest)[15]? = some (.inl (.int, aI 8 goH)) := by
  unfold MC encC
  rfl
theorem gC_16 : (MC s0 s1 handN handD gT gF alE alS alM fiF fiN fiD epN epD goH goN goD plS plP plM plA plBN plBD plLN plLD plR veW veF veP vsF vsN vsD juM juP juTN juTD juO scN scD noF noN noD neF neN neD arP arB arM arU arF arR arL arT arA arS leN leD grN grD arH arLU arGU shN shD stF stN stD rest)[16]? = some (.inr (3, [.ref 17, .ref 18])) := by
  unfold MC encC
  rfl
theorem gC_17 : (MC s0 s1 handN handD gT gF alE alS alM fiF fiN fiD epN epD goH goN goD plS plP plM plA plBN plBD plLN plLD plR veW veF veP vsF vsN vsD juM juP juTN juTD juO scN scD noF noN noD neF neN neD arP arB arM arU arF arR arL arT arA arS leN leD grN grD arH arLU arGU shN shD stF stN stD rest)[17]? = some (.inl (.long, aL 8 goN)) := by
  unfold MC encC
  rfl
theorem gC_18 : (MC s0 s1 handN handD gT gF alE alS alM fiF fiN fiD epN epD goH goN goD plS plP plM plA plBN plBD plLN plLD plR veW veF veP vsF vsN vsD juM juP juTN juTD juO scN scD noF noN noD neF neN neD arP arB arM arU arF arR arL arT arA arS leN leD grN grD arH arLU arGU shN shD stF stN stD rest)[18]? = some (.inl (.long, aL 8 goD)) := by
  unfold MC encC
  rfl
theorem gC_19 : (MC s0 s1 handN handD gT gF alE alS alM fiF fiN fiD epN epD goH goN goD plS plP plM plA plBN plBD plLN plLD plR veW veF veP vsF vsN vsD juM juP juTN juTD juO scN scD noF noN noD neF neN neD arP arB arM arU arF arR arL arT arA arS leN leD grN grD arH arLU arGU shN shD stF stN stD rest)[19]? = some (.inr (5, [.int (iI plS), .ref 20, .ref 21, .ref 24, .int (iI plP), .ref 27, .int (mk plM)])) := by
  unfold MC encC
  rfl
theorem gC_20 : (MC s0 s1 handN handD gT gF alE alS alM fiF fiN fiD epN epD goH goN goD plS plP plM plA plBN plBD plLN plLD plR veW veF veP vsF vsN vsD juM juP juTN juTD juO scN scD noF noN noD neF neN neD arP arB arM arU arF arR arL arT arA arS leN leD grN grD arH arLU arGU shN shD stF stN stD rest)[20]? = some (.inl (.int, aI 12 plA)) := by
  unfold MC encC
  rfl
theorem gC_21 : (MC s0 s1 handN handD gT gF alE alS alM fiF fiN fiD epN epD goH goN goD plS plP plM plA plBN plBD plLN plLD plR veW veF veP vsF vsN vsD juM juP juTN juTD juO scN scD noF noN noD neF neN neD arP arB arM arU arF arR arL arT arA arS leN leD grN grD arH arLU arGU shN shD stF stN stD rest)[21]? = some (.inr (3, [.ref 22, .ref 23])) := by
  unfold MC encC
  rfl
theorem gC_22 : (MC s0 s1 handN handD gT gF alE alS alM fiF fiN fiD epN epD goH goN goD plS plP plM plA plBN plBD plLN plLD plR veW veF veP vsF vsN vsD juM juP juTN juTD juO scN scD noF noN noD neF neN neD arP arB arM arU arF arR arL arT arA arS leN leD grN grD arH arLU arGU shN shD stF stN stD rest)[22]? = some (.inl (.long, aL 12 plBN)) := by
  unfold MC encC
  rfl
theorem gC_23 : (MC s0 s1 handN handD gT gF alE alS alM fiF fiN fiD epN epD goH goN goD plS plP plM plA plBN plBD plLN plLD plR veW veF veP vsF vsN vsD juM juP juTN juTD juO scN scD noF noN noD neF neN neD arP arB arM arU arF arR arL arT arA arS leN leD grN grD arH arLU arGU shN shD stF stN stD rest)[23]? = some (.inl (.long, aL 12 plBD)) := by
  unfold MC encC
  rfl
theorem gC_24 : (MC s0 s1 handN handD gT gF alE alS alM fiF fiN fiD epN epD goH goN goD plS plP plM plA plBN plBD plLN plLD plR veW veF veP vsF vsN vsD juM juP juTN juTD juO scN scD noF noN noD neF neN neD arP arB arM arU arF arR arL arT arA arS leN leD grN grD arH arLU arGU shN shD stF stN stD rest)[24]? = some (.inr (3, [.ref 25, .ref 26])) := by
  unfold MC encC
  rfl
theorem gC_25 : (MC s0 s1 handN handD gT gF alE alS alM fiF fiN fiD epN epD goH goN goD plS plP plM plA plBN plBD plLN plLD plR veW veF veP vsF vsN vsD juM juP juTN juTD juO scN scD noF noN noD neF neN neD arP arB arM arU arF arR arL arT arA arS leN leD grN grD arH arLU arGU shN shD stF stN stD rest)[25]? = some (.inl (.long, aL 12 plLN)) := by
  unfold MC encC
  rfl
theorem gC_26 : (MC s0 s1 handN handD gT gF alE alS alM fiF fiN fiD epN epD goH goN goD plS plP plM plA plBN plBD plLN plLD plR veW veF veP vsF vsN vsD juM juP juTN juTD juO scN scD noF noN noD neF neN neD arP arB arM arU arF arR arL arT arA arS leN leD grN grD arH arLU arGU shN shD stF stN stD rest)[26]? = some (.inl (.long, aL 12 plLD)) := by
  unfold MC encC
  rfl
theorem gC_27 : (MC s0 s1 handN handD gT gF alE alS alM fiF fiN fiD epN epD goH goN goD plS plP plM plA plBN plBD plLN plLD plR veW veF veP vsF vsN vsD juM juP juTN juTD juO scN scD noF noN noD neF neN neD arP arB arM arU arF arR arL arT arA arS leN leD grN grD arH arLU arGU shN shD stF stN stD rest)[27]? = some (.inl (.int, aI 24 plR)) := by
  unfold MC encC
  rfl
theorem gC_28 : (MC s0 s1 handN handD gT gF alE alS alM fiF fiN fiD epN epD goH goN goD plS plP plM plA plBN plBD plLN plLD plR veW veF veP vsF vsN vsD juM juP juTN juTD juO scN scD noF noN noD neF neN neD arP arB arM arU arF arR arL arT arA arS leN leD grN grD arH arLU arGU shN shD stF stN stD rest)[28]? = some (.inr (9, [.int (iI veW), .int (iI veF), .int (iI veP), .ref 29])) := by
  unfold MC encC
  rfl
theorem gC_29 : (MC s0 s1 handN handD gT gF alE alS alM fiF fiN fiD epN epD goH goN goD plS plP plM plA plBN plBD plLN plLD plR veW veF veP vsF vsN vsD juM juP juTN juTD juO scN scD noF noN noD neF neN neD arP arB arM arU arF arR arL arT arA arS leN leD grN grD arH arLU arGU shN shD stF stN stD rest)[29]? = some (.inr (6, [.int (mk vsF), .ref 30])) := by
  unfold MC encC
  rfl
theorem gC_30 : (MC s0 s1 handN handD gT gF alE alS alM fiF fiN fiD epN epD goH goN goD plS plP plM plA plBN plBD plLN plLD plR veW veF veP vsF vsN vsD juM juP juTN juTD juO scN scD noF noN noD neF neN neD arP arB arM arU arF arR arL arT arA arS leN leD grN grD arH arLU arGU shN shD stF stN stD rest)[30]? = some (.inr (3, [.ref 31, .ref 32])) := by
  unfold MC encC
  rfl
theorem gC_31 : (MC s0 s1 handN handD gT gF alE alS alM fiF fiN fiD epN epD goH goN goD plS plP plM plA plBN plBD plLN plLD plR veW veF veP vsF vsN vsD juM juP juTN juTD juO scN scD noF noN noD neF neN neD arP arB arM arU arF arR arL arT arA arS leN leD grN grD arH arLU arGU shN shD stF stN stD rest)[31]? = some (.inl (.long, aL 8 vsN)) := by
  unfold MC encC
  rfl
theorem gC_32 : (MC s0 s1 handN handD gT gF alE alS alM fiF fiN fiD epN epD goH goN goD plS plP plM plA plBN plBD plLN plLD plR veW veF veP vsF vsN vsD juM juP juTN juTD juO scN scD noF noN noD neF neN neD arP arB arM arU arF arR arL arT arA arS leN leD grN grD arH arLU arGU shN shD stF stN stD rest)[32]? = some (.inl (.long, aL 8 vsD)) := by
  unfold MC encC
  rfl
theorem gC_33 : (MC s0 s1 handN handD gT gF alE alS alM fiF fiN fiD epN epD goH goN goD plS plP plM plA plBN plBD plLN plLD plR veW veF veP vsF vsN vsD juM juP juTN juTD juO scN scD noF noN noD neF neN neD arP arB arM arU arF arR arL arT arA arS leN leD grN grD arH arLU arGU shN shD stF stN stD rest)[33]? = some (.inr (4, [.ref 34, .ref 37, .ref 38, .ref 41, .ref 45, .int (mk juM), .int (iI juP)])) := by
  unfold MC encC
  rfl
theorem gC_34 : (MC s0 s1 handN handD gT gF alE alS alM fiF fiN fiD epN epD goH goN goD plS plP plM plA plBN plBD plLN plLD plR veW veF veP vsF vsN vsD juM juP juTN juTD juO scN scD noF noN noD neF neN neD arP arB arM arU arF arR arL arT arA arS leN leD grN grD arH arLU arGU shN shD stF stN stD rest)[34]? = some (.inr (3, [.ref 35, .ref 36])) := by
  unfold MC encC
  rfl
theorem gC_35 : (MC s0 s1 handN handD gT gF alE alS alM fiF fiN fiD epN epD goH goN goD plS plP plM plA plBN plBD plLN plLD plR veW veF veP vsF vsN vsD juM juP juTN juTD juO scN scD noF noN noD neF neN neD arP arB arM arU arF arR arL arT arA arS leN leD grN grD arH arLU arGU shN shD stF stN stD rest)[35]? = some (.inl (.long, aL 24 juTN)) := by
  unfold MC encC
  rfl
theorem gC_36 : (MC s0 s1 handN handD gT gF alE alS alM fiF fiN fiD epN epD goH goN goD plS plP plM plA plBN plBD plLN plLD plR veW veF veP vsF vsN vsD juM juP juTN juTD juO scN scD noF noN noD neF neN neD arP arB arM arU arF arR arL arT arA arS leN leD grN grD arH arLU arGU shN shD stF stN stD rest)[36]? = some (.inl (.long, aL 24 juTD)) := by
  unfold MC encC
  rfl
theorem gC_37 : (MC s0 s1 handN handD gT gF alE alS alM fiF fiN fiD epN epD goH goN goD plS plP plM plA plBN plBD plLN plLD plR veW veF veP vsF vsN vsD juM juP juTN juTD juO scN scD noF noN noD neF neN neD arP arB arM arU arF arR arL arT arA arS leN leD grN grD arH arLU arGU shN shD stF stN stD rest)[37]? = some (.inl (.int, aI 24 juO)) := by
  unfold MC encC
  rfl
theorem gC_38 : (MC s0 s1 handN handD gT gF alE alS alM fiF fiN fiD epN epD goH goN goD plS plP plM plA plBN plBD plLN plLD plR veW veF veP vsF vsN vsD juM juP juTN juTD juO scN scD noF noN noD neF neN neD arP arB arM arU arF arR arL arT arA arS leN leD grN grD arH arLU arGU shN shD stF stN stD rest)[38]? = some (.inr (3, [.ref 39, .ref 40])) := by
  unfold MC encC
  rfl
theorem gC_39 : (MC s0 s1 handN handD gT gF alE alS alM fiF fiN fiD epN epD goH goN goD plS plP plM plA plBN plBD plLN plLD plR veW veF veP vsF vsN vsD juM juP juTN juTD juO scN scD noF noN noD neF neN neD arP arB arM arU arF arR arL arT arA arS leN leD grN grD arH arLU arGU shN shD stF stN stD rest)[39]? = some (.inl (.long, aL 1 scN)) := by
  unfold MC encC
  rfl
theorem gC_40 : (MC s0 s1 handN handD gT gF alE alS alM fiF fiN fiD epN epD goH goN goD plS plP plM plA plBN plBD plLN plLD plR veW veF veP vsF vsN vsD juM juP juTN juTD juO scN scD noF noN noD neF neN neD arP arB arM arU arF arR arL arT arA arS leN leD grN grD arH arLU arGU shN shD stF stN stD rest)[40]? = some (.inl (.long, aL 1 scD)) := by
  unfold MC encC
  rfl
theorem gC_41 : (MC s0 s1 handN handD gT gF alE alS alM fiF fiN fiD epN epD goH goN goD plS plP plM plA plBN plBD plLN plLD plR veW veF veP vsF vsN vsD juM juP juTN juTD juO scN scD noF noN noD neF neN neD arP arB arM arU arF arR arL arT arA arS leN leD grN grD arH arLU arGU shN shD stF stN stD rest)[41]? = some (.inr (6, [.int (mk noF), .ref 42])) := by
  unfold MC encC
  rfl
theorem gC_42 : (MC s0 s1 handN handD gT gF alE alS alM fiF fiN fiD epN epD goH goN goD plS plP plM plA plBN plBD plLN plLD plR veW veF veP vsF vsN vsD juM juP juTN juTD juO scN scD noF noN noD neF neN neD arP arB arM arU arF arR arL arT arA arS leN leD grN grD arH arLU arGU shN shD stF stN stD rest)[42]? = some (.inr (3, [.ref 43, .ref 44])) := by
  unfold MC encC
  rfl
theorem gC_43 : (MC s0 s1 handN handD gT gF alE alS alM fiF fiN fiD epN epD goH goN goD plS plP plM plA plBN plBD plLN plLD plR veW veF veP vsF vsN vsD juM juP juTN juTD juO scN scD noF noN noD neF neN neD arP arB arM arU arF arR arL arT arA arS leN leD grN grD arH arLU arGU shN shD stF stN stD rest)[43]? = some (.inl (.long, aL 8 noN)) := by
  unfold MC encC
  rfl
theorem gC_44 : (MC s0 s1 handN handD gT gF alE alS alM fiF fiN fiD epN epD goH goN goD plS plP plM plA plBN plBD plLN plLD plR veW veF veP vsF vsN vsD juM juP juTN juTD juO scN scD noF noN noD neF neN neD arP arB arM arU arF arR arL arT arA arS leN leD grN grD arH arLU arGU shN shD stF stN stD rest)[44]? = some (.inl (.long, aL 8 noD)) := by
  unfold MC encC
  rfl
theorem gC_45 : (MC s0 s1 handN handD gT gF alE alS alM fiF fiN fiD epN epD goH goN goD plS plP plM plA plBN plBD plLN plLD plR veW veF veP vsF vsN vsD juM juP juTN juTD juO scN scD noF noN noD neF neN neD arP arB arM arU arF arR arL arT arA arS leN leD grN grD arH arLU arGU shN shD stF stN stD rest)[45]? = some (.inr (6, [.int (mk neF), .ref 46])) := by
  unfold MC encC
  rfl
theorem gC_46 : (MC s0 s1 handN handD gT gF alE alS alM fiF fiN fiD epN epD goH goN goD plS plP plM plA plBN plBD plLN plLD plR veW veF veP vsF vsN vsD juM juP juTN juTD juO scN scD noF noN noD neF neN neD arP arB arM arU arF arR arL arT arA arS leN leD grN grD arH arLU arGU shN shD stF stN stD rest)[46]? = some (.inr (3, [.ref 47, .ref 48])) := by
  unfold MC encC
  rfl
theorem gC_47 : (MC s0 s1 handN handD gT gF alE alS alM fiF fiN fiD epN epD goH goN goD plS plP plM plA plBN plBD plLN plLD plR veW veF veP vsF vsN vsD juM juP juTN juTD juO scN scD noF noN noD neF neN neD arP arB arM arU arF arR arL arT arA arS leN leD grN grD arH arLU arGU shN shD stF stN stD rest)[47]? = some (.inl (.long, aL 8 neN)) := by
  unfold MC encC
  rfl
theorem gC_48 : (MC s0 s1 handN handD gT gF alE alS alM fiF fiN fiD epN epD goH goN goD plS plP plM plA plBN plBD plLN plLD plR veW veF veP vsF vsN vsD juM juP juTN juTD juO scN scD noF noN noD neF neN neD arP arB arM arU arF arR arL arT arA arS leN leD grN grD arH arLU arGU shN shD stF stN stD rest)[48]? = some (.inl (.long, aL 8 neD)) := by
  unfold MC encC
  rfl
theorem gC_49 : (MC s0 s1 handN handD gT gF alE alS alM fiF fiN fiD epN epD goH goN goD plS plP plM plA plBN plBD plLN plLD plR veW veF veP vsF vsN vsD juM juP juTN juTD juO scN scD noF noN noD neF neN neD arP arB arM arU arF arR arL arT arA arS leN leD grN grD arH arLU arGU shN shD stF stN stD rest)[49]? = some (.inr (2, [.ref 50, .int (iI arP), .ref 51, .ref 52, .ref 53, .int (iI arB), .int (mk arM), .ref 54, .ref 55, .ref 56, .ref 59, .ref 62, .ref 63, .ref 64, .long (lI arU), .ref 65, .int (iI arF)])) := by
  unfold MC encC
  rfl
theorem gC_50 : (MC s0 s1 handN handD gT gF alE alS alM fiF fiN fiD epN epD goH goN goD plS plP plM plA plBN plBD plLN plLD plR veW veF veP vsF vsN vsD juM juP juTN juTD juO scN scD noF noN noD neF neN neD arP arB arM arU arF arR arL arT arA arS leN leD grN grD arH arLU arGU shN shD stF stN stD rest)[50]? = some (.inl (.object "PlanJudge$State", (List.range 25).map (fun k : Nat => Value.ref (68 + 4 * k)))) := by
  unfold MC encC
  rfl
theorem gC_51 : (MC s0 s1 handN handD gT gF alE alS alM fiF fiN fiD epN epD goH goN goD plS plP plM plA plBN plBD plLN plLD plR veW veF veP vsF vsN vsD juM juP juTN juTD juO scN scD noF noN noD neF neN neD arP arB arM arU arF arR arL arT arA arS leN leD grN grD arH arLU arGU shN shD stF stN stD rest)[51]? = some (.inl (.int, aI 24 arR)) := by
  unfold MC encC
  rfl
theorem gC_52 : (MC s0 s1 handN handD gT gF alE alS alM fiF fiN fiD epN epD goH goN goD plS plP plM plA plBN plBD plLN plLD plR veW veF veP vsF vsN vsD juM juP juTN juTD juO scN scD noF noN noD neF neN neD arP arB arM arU arF arR arL arT arA arS leN leD grN grD arH arLU arGU shN shD stF stN stD rest)[52]? = some (.inl (.int, aI 24 arL)) := by
  unfold MC encC
  rfl
theorem gC_53 : (MC s0 s1 handN handD gT gF alE alS alM fiF fiN fiD epN epD goH goN goD plS plP plM plA plBN plBD plLN plLD plR veW veF veP vsF vsN vsD juM juP juTN juTD juO scN scD noF noN noD neF neN neD arP arB arM arU arF arR arL arT arA arS leN leD grN grD arH arLU arGU shN shD stF stN stD rest)[53]? = some (.inl (.long, aL 24 arT)) := by
  unfold MC encC
  rfl
theorem gC_54 : (MC s0 s1 handN handD gT gF alE alS alM fiF fiN fiD epN epD goH goN goD plS plP plM plA plBN plBD plLN plLD plR veW veF veP vsF vsN vsD juM juP juTN juTD juO scN scD noF noN noD neF neN neD arP arB arM arU arF arR arL arT arA arS leN leD grN grD arH arLU arGU shN shD stF stN stD rest)[54]? = some (.inl (.int, aI 12 arA)) := by
  unfold MC encC
  rfl
theorem gC_55 : (MC s0 s1 handN handD gT gF alE alS alM fiF fiN fiD epN epD goH goN goD plS plP plM plA plBN plBD plLN plLD plR veW veF veP vsF vsN vsD juM juP juTN juTD juO scN scD noF noN noD neF neN neD arP arB arM arU arF arR arL arT arA arS leN leD grN grD arH arLU arGU shN shD stF stN stD rest)[55]? = some (.inl (.int, aI 12 arS)) := by
  unfold MC encC
  rfl
theorem gC_56 : (MC s0 s1 handN handD gT gF alE alS alM fiF fiN fiD epN epD goH goN goD plS plP plM plA plBN plBD plLN plLD plR veW veF veP vsF vsN vsD juM juP juTN juTD juO scN scD noF noN noD neF neN neD arP arB arM arU arF arR arL arT arA arS leN leD grN grD arH arLU arGU shN shD stF stN stD rest)[56]? = some (.inr (3, [.ref 57, .ref 58])) := by
  unfold MC encC
  rfl
theorem gC_57 : (MC s0 s1 handN handD gT gF alE alS alM fiF fiN fiD epN epD goH goN goD plS plP plM plA plBN plBD plLN plLD plR veW veF veP vsF vsN vsD juM juP juTN juTD juO scN scD noF noN noD neF neN neD arP arB arM arU arF arR arL arT arA arS leN leD grN grD arH arLU arGU shN shD stF stN stD rest)[57]? = some (.inl (.long, aL 12 leN)) := by
  unfold MC encC
  rfl
theorem gC_58 : (MC s0 s1 handN handD gT gF alE alS alM fiF fiN fiD epN epD goH goN goD plS plP plM plA plBN plBD plLN plLD plR veW veF veP vsF vsN vsD juM juP juTN juTD juO scN scD noF noN noD neF neN neD arP arB arM arU arF arR arL arT arA arS leN leD grN grD arH arLU arGU shN shD stF stN stD rest)[58]? = some (.inl (.long, aL 12 leD)) := by
  unfold MC encC
  rfl
theorem gC_59 : (MC s0 s1 handN handD gT gF alE alS alM fiF fiN fiD epN epD goH goN goD plS plP plM plA plBN plBD plLN plLD plR veW veF veP vsF vsN vsD juM juP juTN juTD juO scN scD noF noN noD neF neN neD arP arB arM arU arF arR arL arT arA arS leN leD grN grD arH arLU arGU shN shD stF stN stD rest)[59]? = some (.inr (3, [.ref 60, .ref 61])) := by
  unfold MC encC
  rfl
theorem gC_60 : (MC s0 s1 handN handD gT gF alE alS alM fiF fiN fiD epN epD goH goN goD plS plP plM plA plBN plBD plLN plLD plR veW veF veP vsF vsN vsD juM juP juTN juTD juO scN scD noF noN noD neF neN neD arP arB arM arU arF arR arL arT arA arS leN leD grN grD arH arLU arGU shN shD stF stN stD rest)[60]? = some (.inl (.long, aL 12 grN)) := by
  unfold MC encC
  rfl
theorem gC_61 : (MC s0 s1 handN handD gT gF alE alS alM fiF fiN fiD epN epD goH goN goD plS plP plM plA plBN plBD plLN plLD plR veW veF veP vsF vsN vsD juM juP juTN juTD juO scN scD noF noN noD neF neN neD arP arB arM arU arF arR arL arT arA arS leN leD grN grD arH arLU arGU shN shD stF stN stD rest)[61]? = some (.inl (.long, aL 12 grD)) := by
  unfold MC encC
  rfl
theorem gC_62 : (MC s0 s1 handN handD gT gF alE alS alM fiF fiN fiD epN epD goH goN goD plS plP plM plA plBN plBD plLN plLD plR veW veF veP vsF vsN vsD juM juP juTN juTD juO scN scD noF noN noD neF neN neD arP arB arM arU arF arR arL arT arA arS leN leD grN grD arH arLU arGU shN shD stF stN stD rest)[62]? = some (.inl (.boolean, aZ 12 arH)) := by
  unfold MC encC
  rfl
theorem gC_63 : (MC s0 s1 handN handD gT gF alE alS alM fiF fiN fiD epN epD goH goN goD plS plP plM plA plBN plBD plLN plLD plR veW veF veP vsF vsN vsD juM juP juTN juTD juO scN scD noF noN noD neF neN neD arP arB arM arU arF arR arL arT arA arS leN leD grN grD arH arLU arGU shN shD stF stN stD rest)[63]? = some (.inl (.long, aL 12 arLU)) := by
  unfold MC encC
  rfl
theorem gC_64 : (MC s0 s1 handN handD gT gF alE alS alM fiF fiN fiD epN epD goH goN goD plS plP plM plA plBN plBD plLN plLD plR veW veF veP vsF vsN vsD juM juP juTN juTD juO scN scD noF noN noD neF neN neD arP arB arM arU arF arR arL arT arA arS leN leD grN grD arH arLU arGU shN shD stF stN stD rest)[64]? = some (.inl (.long, aL 12 arGU)) := by
  unfold MC encC
  rfl
theorem gC_65 : (MC s0 s1 handN handD gT gF alE alS alM fiF fiN fiD epN epD goH goN goD plS plP plM plA plBN plBD plLN plLD plR veW veF veP vsF vsN vsD juM juP juTN juTD juO scN scD noF noN noD neF neN neD arP arB arM arU arF arR arL arT arA arS leN leD grN grD arH arLU arGU shN shD stF stN stD rest)[65]? = some (.inr (3, [.ref 66, .ref 67])) := by
  unfold MC encC
  rfl
theorem gC_66 : (MC s0 s1 handN handD gT gF alE alS alM fiF fiN fiD epN epD goH goN goD plS plP plM plA plBN plBD plLN plLD plR veW veF veP vsF vsN vsD juM juP juTN juTD juO scN scD noF noN noD neF neN neD arP arB arM arU arF arR arL arT arA arS leN leD grN grD arH arLU arGU shN shD stF stN stD rest)[66]? = some (.inl (.long, aL 1 shN)) := by
  unfold MC encC
  rfl
theorem gC_67 : (MC s0 s1 handN handD gT gF alE alS alM fiF fiN fiD epN epD goH goN goD plS plP plM plA plBN plBD plLN plLD plR veW veF veP vsF vsN vsD juM juP juTN juTD juO scN scD noF noN noD neF neN neD arP arB arM arU arF arR arL arT arA arS leN leD grN grD arH arLU arGU shN shD stF stN stD rest)[67]? = some (.inl (.long, aL 1 shD)) := by
  unfold MC encC
  rfl
theorem sC_handN {xx : Int → Int} : (MC s0 s1 handN handD gT gF alE alS alM fiF fiN fiD epN epD goH goN goD plS plP plM plA plBN plBD plLN plLD plR veW veF veP vsF vsN vsD juM juP juTN juTD juO scN scD noF noN noD neF neN neD arP arB arM arU arF arR arL arT arA arS leN leD grN grD arH arLU arGU shN shD stF stN stD rest).set 4 (.inl (.long, aL 2 xx)) = (MC s0 s1 xx handD gT gF alE alS alM fiF fiN fiD epN epD goH goN goD plS plP plM plA plBN plBD plLN plLD plR veW veF veP vsF vsN vsD juM juP juTN juTD juO scN scD noF noN noD neF neN neD arP arB arM arU arF arR arL arT arA arS leN leD grN grD arH arLU arGU shN shD stF stN stD rest) := by
  unfold MC encC
  rfl
theorem kC_handN {xx : Int → Int} (h : aL 2 handN = aL 2 xx) : (MC s0 s1 handN handD gT gF alE alS alM fiF fiN fiD epN epD goH goN goD plS plP plM plA plBN plBD plLN plLD plR veW veF veP vsF vsN vsD juM juP juTN juTD juO scN scD noF noN noD neF neN neD arP arB arM arU arF arR arL arT arA arS leN leD grN grD arH arLU arGU shN shD stF stN stD rest) = (MC s0 s1 xx handD gT gF alE alS alM fiF fiN fiD epN epD goH goN goD plS plP plM plA plBN plBD plLN plLD plR veW veF veP vsF vsN vsD juM juP juTN juTD juO scN scD noF noN noD neF neN neD arP arB arM arU arF arR arL arT arA arS leN leD grN grD arH arLU arGU shN shD stF stN stD rest) := by
  unfold MC encC
  rw [h]
theorem sC_handD {xx : Int → Int} : (MC s0 s1 handN handD gT gF alE alS alM fiF fiN fiD epN epD goH goN goD plS plP plM plA plBN plBD plLN plLD plR veW veF veP vsF vsN vsD juM juP juTN juTD juO scN scD noF noN noD neF neN neD arP arB arM arU arF arR arL arT arA arS leN leD grN grD arH arLU arGU shN shD stF stN stD rest).set 5 (.inl (.long, aL 2 xx)) = (MC s0 s1 handN xx gT gF alE alS alM fiF fiN fiD epN epD goH goN goD plS plP plM plA plBN plBD plLN plLD plR veW veF veP vsF vsN vsD juM juP juTN juTD juO scN scD noF noN noD neF neN neD arP arB arM arU arF arR arL arT arA arS leN leD grN grD arH arLU arGU shN shD stF stN stD rest) := by
  unfold MC encC
  rfl
theorem kC_handD {xx : Int → Int} (h : aL 2 handD = aL 2 xx) : (MC s0 s1 handN handD gT gF alE alS alM fiF fiN fiD epN epD goH goN goD plS plP plM plA plBN plBD plLN plLD plR veW veF veP vsF vsN vsD juM juP juTN juTD juO scN scD noF noN noD neF neN neD arP arB arM arU arF arR arL arT arA arS leN leD grN grD arH arLU arGU shN shD stF stN stD rest) = (MC s0 s1 handN xx gT gF alE alS alM fiF fiN fiD epN epD goH goN goD plS plP plM plA plBN plBD plLN plLD plR veW veF veP vsF vsN vsD juM juP juTN juTD juO scN scD noF noN noD neF neN neD arP arB arM arU arF arR arL arT arA arS leN leD grN grD arH arLU arGU shN shD stF stN stD rest) := by
  unfold MC encC
  rw [h]
theorem sO_gT {xx : Int → Prop} : (MC s0 s1 handN handD gT gF alE alS alM fiF fiN fiD epN epD goH goN goD plS plP plM plA plBN plBD plLN plLD plR veW veF veP vsF vsN vsD juM juP juTN juTD juO scN scD noF noN noD neF neN neD arP arB arM arU arF arR arL arT arA arS leN leD grN grD arH arLU arGU shN shD stF stN stD rest).set 6 (.inr (7, List.set [.ref 7, .ref 8, .ref 12, .int (mk gT), .int (mk gF), .ref 15, .ref 16] 3 (.int (mk xx)))) = (MC s0 s1 handN handD xx gF alE alS alM fiF fiN fiD epN epD goH goN goD plS plP plM plA plBN plBD plLN plLD plR veW veF veP vsF vsN vsD juM juP juTN juTD juO scN scD noF noN noD neF neN neD arP arB arM arU arF arR arL arT arA arS leN leD grN grD arH arLU arGU shN shD stF stN stD rest) := by
  unfold MC encC
  rfl
theorem sO_gF {xx : Int → Prop} : (MC s0 s1 handN handD gT gF alE alS alM fiF fiN fiD epN epD goH goN goD plS plP plM plA plBN plBD plLN plLD plR veW veF veP vsF vsN vsD juM juP juTN juTD juO scN scD noF noN noD neF neN neD arP arB arM arU arF arR arL arT arA arS leN leD grN grD arH arLU arGU shN shD stF stN stD rest).set 6 (.inr (7, List.set [.ref 7, .ref 8, .ref 12, .int (mk gT), .int (mk gF), .ref 15, .ref 16] 4 (.int (mk xx)))) = (MC s0 s1 handN handD gT xx alE alS alM fiF fiN fiD epN epD goH goN goD plS plP plM plA plBN plBD plLN plLD plR veW veF veP vsF vsN vsD juM juP juTN juTD juO scN scD noF noN noD neF neN neD arP arB arM arU arF arR arL arT arA arS leN leD grN grD arH arLU arGU shN shD stF stN stD rest) := by
  unfold MC encC
  rfl
theorem sO_alE {xx : Nat} : (MC s0 s1 handN handD gT gF alE alS alM fiF fiN fiD epN epD goH goN goD plS plP plM plA plBN plBD plLN plLD plR veW veF veP vsF vsN vsD juM juP juTN juTD juO scN scD noF noN noD neF neN neD arP arB arM arU arF arR arL arT arA arS leN leD grN grD arH arLU arGU shN shD stF stN stD rest).set 7 (.inr (11, List.set [.ref alE, .int (iI alS), .int (iI alM)] 0 (.ref xx))) = (MC s0 s1 handN handD gT gF xx alS alM fiF fiN fiD epN epD goH goN goD plS plP plM plA plBN plBD plLN plLD plR veW veF veP vsF vsN vsD juM juP juTN juTD juO scN scD noF noN noD neF neN neD arP arB arM arU arF arR arL arT arA arS leN leD grN grD arH arLU arGU shN shD stF stN stD rest) := by
  unfold MC encC
  rfl
theorem sO_alS {xx : Int} : (MC s0 s1 handN handD gT gF alE alS alM fiF fiN fiD epN epD goH goN goD plS plP plM plA plBN plBD plLN plLD plR veW veF veP vsF vsN vsD juM juP juTN juTD juO scN scD noF noN noD neF neN neD arP arB arM arU arF arR arL arT arA arS leN leD grN grD arH arLU arGU shN shD stF stN stD rest).set 7 (.inr (11, List.set [.ref alE, .int (iI alS), .int (iI alM)] 1 (.int (iI xx)))) = (MC s0 s1 handN handD gT gF alE xx alM fiF fiN fiD epN epD goH goN goD plS plP plM plA plBN plBD plLN plLD plR veW veF veP vsF vsN vsD juM juP juTN juTD juO scN scD noF noN noD neF neN neD arP arB arM arU arF arR arL arT arA arS leN leD grN grD arH arLU arGU shN shD stF stN stD rest) := by
  unfold MC encC
  rfl
theorem sO_alM {xx : Int} : (MC s0 s1 handN handD gT gF alE alS alM fiF fiN fiD epN epD goH goN goD plS plP plM plA plBN plBD plLN plLD plR veW veF veP vsF vsN vsD juM juP juTN juTD juO scN scD noF noN noD neF neN neD arP arB arM arU arF arR arL arT arA arS leN leD grN grD arH arLU arGU shN shD stF stN stD rest).set 7 (.inr (11, List.set [.ref alE, .int (iI alS), .int (iI alM)] 2 (.int (iI xx)))) = (MC s0 s1 handN handD gT gF alE alS xx fiF fiN fiD epN epD goH goN goD plS plP plM plA plBN plBD plLN plLD plR veW veF veP vsF vsN vsD juM juP juTN juTD juO scN scD noF noN noD neF neN neD arP arB arM arU arF arR arL arT arA arS leN leD grN grD arH arLU arGU shN shD stF stN stD rest) := by
  unfold MC encC
  rfl
theorem sO_fiF {xx : Int → Prop} : (MC s0 s1 handN handD gT gF alE alS alM fiF fiN fiD epN epD goH goN goD plS plP plM plA plBN plBD plLN plLD plR veW veF veP vsF vsN vsD juM juP juTN juTD juO scN scD noF noN noD neF neN neD arP arB arM arU arF arR arL arT arA arS leN leD grN grD arH arLU arGU shN shD stF stN stD rest).set 8 (.inr (6, List.set [.int (mk fiF), .ref 9] 0 (.int (mk xx)))) = (MC s0 s1 handN handD gT gF alE alS alM xx fiN fiD epN epD goH goN goD plS plP plM plA plBN plBD plLN plLD plR veW veF veP vsF vsN vsD juM juP juTN juTD juO scN scD noF noN noD neF neN neD arP arB arM arU arF arR arL arT arA arS leN leD grN grD arH arLU arGU shN shD stF stN stD rest) := by
  unfold MC encC
  rfl
theorem sC_fiN {xx : Int → Int} : (MC s0 s1 handN handD gT gF alE alS alM fiF fiN fiD epN epD goH goN goD plS plP plM plA plBN plBD plLN plLD plR veW veF veP vsF vsN vsD juM juP juTN juTD juO scN scD noF noN noD neF neN neD arP arB arM arU arF arR arL arT arA arS leN leD grN grD arH arLU arGU shN shD stF stN stD rest).set 10 (.inl (.long, aL 8 xx)) = (MC s0 s1 handN handD gT gF alE alS alM fiF xx fiD epN epD goH goN goD plS plP plM plA plBN plBD plLN plLD plR veW veF veP vsF vsN vsD juM juP juTN juTD juO scN scD noF noN noD neF neN neD arP arB arM arU arF arR arL arT arA arS leN leD grN grD arH arLU arGU shN shD stF stN stD rest) := by
  unfold MC encC
  rfl
theorem kC_fiN {xx : Int → Int} (h : aL 8 fiN = aL 8 xx) : (MC s0 s1 handN handD gT gF alE alS alM fiF fiN fiD epN epD goH goN goD plS plP plM plA plBN plBD plLN plLD plR veW veF veP vsF vsN vsD juM juP juTN juTD juO scN scD noF noN noD neF neN neD arP arB arM arU arF arR arL arT arA arS leN leD grN grD arH arLU arGU shN shD stF stN stD rest) = (MC s0 s1 handN handD gT gF alE alS alM fiF xx fiD epN epD goH goN goD plS plP plM plA plBN plBD plLN plLD plR veW veF veP vsF vsN vsD juM juP juTN juTD juO scN scD noF noN noD neF neN neD arP arB arM arU arF arR arL arT arA arS leN leD grN grD arH arLU arGU shN shD stF stN stD rest) := by
  unfold MC encC
  rw [h]
theorem sC_fiD {xx : Int → Int} : (MC s0 s1 handN handD gT gF alE alS alM fiF fiN fiD epN epD goH goN goD plS plP plM plA plBN plBD plLN plLD plR veW veF veP vsF vsN vsD juM juP juTN juTD juO scN scD noF noN noD neF neN neD arP arB arM arU arF arR arL arT arA arS leN leD grN grD arH arLU arGU shN shD stF stN stD rest).set 11 (.inl (.long, aL 8 xx)) = (MC s0 s1 handN handD gT gF alE alS alM fiF fiN xx epN epD goH goN goD plS plP plM plA plBN plBD plLN plLD plR veW veF veP vsF vsN vsD juM juP juTN juTD juO scN scD noF noN noD neF neN neD arP arB arM arU arF arR arL arT arA arS leN leD grN grD arH arLU arGU shN shD stF stN stD rest) := by
  unfold MC encC
  rfl
theorem kC_fiD {xx : Int → Int} (h : aL 8 fiD = aL 8 xx) : (MC s0 s1 handN handD gT gF alE alS alM fiF fiN fiD epN epD goH goN goD plS plP plM plA plBN plBD plLN plLD plR veW veF veP vsF vsN vsD juM juP juTN juTD juO scN scD noF noN noD neF neN neD arP arB arM arU arF arR arL arT arA arS leN leD grN grD arH arLU arGU shN shD stF stN stD rest) = (MC s0 s1 handN handD gT gF alE alS alM fiF fiN xx epN epD goH goN goD plS plP plM plA plBN plBD plLN plLD plR veW veF veP vsF vsN vsD juM juP juTN juTD juO scN scD noF noN noD neF neN neD arP arB arM arU arF arR arL arT arA arS leN leD grN grD arH arLU arGU shN shD stF stN stD rest) := by
  unfold MC encC
  rw [h]
theorem sC_epN {xx : Int → Int} : (MC s0 s1 handN handD gT gF alE alS alM fiF fiN fiD epN epD goH goN goD plS plP plM plA plBN plBD plLN plLD plR veW veF veP vsF vsN vsD juM juP juTN juTD juO scN scD noF noN noD neF neN neD arP arB arM arU arF arR arL arT arA arS leN leD grN grD arH arLU arGU shN shD stF stN stD rest).set 13 (.inl (.long, aL 1 xx)) = (MC s0 s1 handN handD gT gF alE alS alM fiF fiN fiD xx epD goH goN goD plS plP plM plA plBN plBD plLN plLD plR veW veF veP vsF vsN vsD juM juP juTN juTD juO scN scD noF noN noD neF neN neD arP arB arM arU arF arR arL arT arA arS leN leD grN grD arH arLU arGU shN shD stF stN stD rest) := by
  unfold MC encC
  rfl
theorem kC_epN {xx : Int → Int} (h : aL 1 epN = aL 1 xx) : (MC s0 s1 handN handD gT gF alE alS alM fiF fiN fiD epN epD goH goN goD plS plP plM plA plBN plBD plLN plLD plR veW veF veP vsF vsN vsD juM juP juTN juTD juO scN scD noF noN noD neF neN neD arP arB arM arU arF arR arL arT arA arS leN leD grN grD arH arLU arGU shN shD stF stN stD rest) = (MC s0 s1 handN handD gT gF alE alS alM fiF fiN fiD xx epD goH goN goD plS plP plM plA plBN plBD plLN plLD plR veW veF veP vsF vsN vsD juM juP juTN juTD juO scN scD noF noN noD neF neN neD arP arB arM arU arF arR arL arT arA arS leN leD grN grD arH arLU arGU shN shD stF stN stD rest) := by
  unfold MC encC
  rw [h]
theorem sC_epD {xx : Int → Int} : (MC s0 s1 handN handD gT gF alE alS alM fiF fiN fiD epN epD goH goN goD plS plP plM plA plBN plBD plLN plLD plR veW veF veP vsF vsN vsD juM juP juTN juTD juO scN scD noF noN noD neF neN neD arP arB arM arU arF arR arL arT arA arS leN leD grN grD arH arLU arGU shN shD stF stN stD rest).set 14 (.inl (.long, aL 1 xx)) = (MC s0 s1 handN handD gT gF alE alS alM fiF fiN fiD epN xx goH goN goD plS plP plM plA plBN plBD plLN plLD plR veW veF veP vsF vsN vsD juM juP juTN juTD juO scN scD noF noN noD neF neN neD arP arB arM arU arF arR arL arT arA arS leN leD grN grD arH arLU arGU shN shD stF stN stD rest) := by
  unfold MC encC
  rfl
theorem kC_epD {xx : Int → Int} (h : aL 1 epD = aL 1 xx) : (MC s0 s1 handN handD gT gF alE alS alM fiF fiN fiD epN epD goH goN goD plS plP plM plA plBN plBD plLN plLD plR veW veF veP vsF vsN vsD juM juP juTN juTD juO scN scD noF noN noD neF neN neD arP arB arM arU arF arR arL arT arA arS leN leD grN grD arH arLU arGU shN shD stF stN stD rest) = (MC s0 s1 handN handD gT gF alE alS alM fiF fiN fiD epN xx goH goN goD plS plP plM plA plBN plBD plLN plLD plR veW veF veP vsF vsN vsD juM juP juTN juTD juO scN scD noF noN noD neF neN neD arP arB arM arU arF arR arL arT arA arS leN leD grN grD arH arLU arGU shN shD stF stN stD rest) := by
  unfold MC encC
  rw [h]
theorem sC_goH {xx : Int → Int} : (MC s0 s1 handN handD gT gF alE alS alM fiF fiN fiD epN epD goH goN goD plS plP plM plA plBN plBD plLN plLD plR veW veF veP vsF vsN vsD juM juP juTN juTD juO scN scD noF noN noD neF neN neD arP arB arM arU arF arR arL arT arA arS leN leD grN grD arH arLU arGU shN shD stF stN stD rest).set 15 (.inl (.int, aI 8 xx)) = (MC s0 s1 handN handD gT gF alE alS alM fiF fiN fiD epN epD xx goN goD plS plP plM plA plBN plBD plLN plLD plR veW veF veP vsF vsN vsD juM juP juTN juTD juO scN scD noF noN noD neF neN neD arP arB arM arU arF arR arL arT arA arS leN leD grN grD arH arLU arGU shN shD stF stN stD rest) := by
  unfold MC encC
  rfl
theorem kC_goH {xx : Int → Int} (h : aI 8 goH = aI 8 xx) : (MC s0 s1 handN handD gT gF alE alS alM fiF fiN fiD epN epD goH goN goD plS plP plM plA plBN plBD plLN plLD plR veW veF veP vsF vsN vsD juM juP juTN juTD juO scN scD noF noN noD neF neN neD arP arB arM arU arF arR arL arT arA arS leN leD grN grD arH arLU arGU shN shD stF stN stD rest) = (MC s0 s1 handN handD gT gF alE alS alM fiF fiN fiD epN epD xx goN goD plS plP plM plA plBN plBD plLN plLD plR veW veF veP vsF vsN vsD juM juP juTN juTD juO scN scD noF noN noD neF neN neD arP arB arM arU arF arR arL arT arA arS leN leD grN grD arH arLU arGU shN shD stF stN stD rest) := by
  unfold MC encC
  rw [h]
theorem sC_goN {xx : Int → Int} : (MC s0 s1 handN handD gT gF alE alS alM fiF fiN fiD epN epD goH goN goD plS plP plM plA plBN plBD plLN plLD plR veW veF veP vsF vsN vsD juM juP juTN juTD juO scN scD noF noN noD neF neN neD arP arB arM arU arF arR arL arT arA arS leN leD grN grD arH arLU arGU shN shD stF stN stD rest).set 17 (.inl (.long, aL 8 xx)) = (MC s0 s1 handN handD gT gF alE alS alM fiF fiN fiD epN epD goH xx goD plS plP plM plA plBN plBD plLN plLD plR veW veF veP vsF vsN vsD juM juP juTN juTD juO scN scD noF noN noD neF neN neD arP arB arM arU arF arR arL arT arA arS leN leD grN grD arH arLU arGU shN shD stF stN stD rest) := by
  unfold MC encC
  rfl
theorem kC_goN {xx : Int → Int} (h : aL 8 goN = aL 8 xx) : (MC s0 s1 handN handD gT gF alE alS alM fiF fiN fiD epN epD goH goN goD plS plP plM plA plBN plBD plLN plLD plR veW veF veP vsF vsN vsD juM juP juTN juTD juO scN scD noF noN noD neF neN neD arP arB arM arU arF arR arL arT arA arS leN leD grN grD arH arLU arGU shN shD stF stN stD rest) = (MC s0 s1 handN handD gT gF alE alS alM fiF fiN fiD epN epD goH xx goD plS plP plM plA plBN plBD plLN plLD plR veW veF veP vsF vsN vsD juM juP juTN juTD juO scN scD noF noN noD neF neN neD arP arB arM arU arF arR arL arT arA arS leN leD grN grD arH arLU arGU shN shD stF stN stD rest) := by
  unfold MC encC
  rw [h]
theorem sC_goD {xx : Int → Int} : (MC s0 s1 handN handD gT gF alE alS alM fiF fiN fiD epN epD goH goN goD plS plP plM plA plBN plBD plLN plLD plR veW veF veP vsF vsN vsD juM juP juTN juTD juO scN scD noF noN noD neF neN neD arP arB arM arU arF arR arL arT arA arS leN leD grN grD arH arLU arGU shN shD stF stN stD rest).set 18 (.inl (.long, aL 8 xx)) = (MC s0 s1 handN handD gT gF alE alS alM fiF fiN fiD epN epD goH goN xx plS plP plM plA plBN plBD plLN plLD plR veW veF veP vsF vsN vsD juM juP juTN juTD juO scN scD noF noN noD neF neN neD arP arB arM arU arF arR arL arT arA arS leN leD grN grD arH arLU arGU shN shD stF stN stD rest) := by
  unfold MC encC
  rfl
theorem kC_goD {xx : Int → Int} (h : aL 8 goD = aL 8 xx) : (MC s0 s1 handN handD gT gF alE alS alM fiF fiN fiD epN epD goH goN goD plS plP plM plA plBN plBD plLN plLD plR veW veF veP vsF vsN vsD juM juP juTN juTD juO scN scD noF noN noD neF neN neD arP arB arM arU arF arR arL arT arA arS leN leD grN grD arH arLU arGU shN shD stF stN stD rest) = (MC s0 s1 handN handD gT gF alE alS alM fiF fiN fiD epN epD goH goN xx plS plP plM plA plBN plBD plLN plLD plR veW veF veP vsF vsN vsD juM juP juTN juTD juO scN scD noF noN noD neF neN neD arP arB arM arU arF arR arL arT arA arS leN leD grN grD arH arLU arGU shN shD stF stN stD rest) := by
  unfold MC encC
  rw [h]
theorem sO_plS {xx : Int} : (MC s0 s1 handN handD gT gF alE alS alM fiF fiN fiD epN epD goH goN goD plS plP plM plA plBN plBD plLN plLD plR veW veF veP vsF vsN vsD juM juP juTN juTD juO scN scD noF noN noD neF neN neD arP arB arM arU arF arR arL arT arA arS leN leD grN grD arH arLU arGU shN shD stF stN stD rest).set 19 (.inr (5, List.set [.int (iI plS), .ref 20, .ref 21, .ref 24, .int (iI plP), .ref 27, .int (mk plM)] 0 (.int (iI xx)))) = (MC s0 s1 handN handD gT gF alE alS alM fiF fiN fiD epN epD goH goN goD xx plP plM plA plBN plBD plLN plLD plR veW veF veP vsF vsN vsD juM juP juTN juTD juO scN scD noF noN noD neF neN neD arP arB arM arU arF arR arL arT arA arS leN leD grN grD arH arLU arGU shN shD stF stN stD rest) := by
  unfold MC encC
  rfl
theorem sO_plP {xx : Int} : (MC s0 s1 handN handD gT gF alE alS alM fiF fiN fiD epN epD goH goN goD plS plP plM plA plBN plBD plLN plLD plR veW veF veP vsF vsN vsD juM juP juTN juTD juO scN scD noF noN noD neF neN neD arP arB arM arU arF arR arL arT arA arS leN leD grN grD arH arLU arGU shN shD stF stN stD rest).set 19 (.inr (5, List.set [.int (iI plS), .ref 20, .ref 21, .ref 24, .int (iI plP), .ref 27, .int (mk plM)] 4 (.int (iI xx)))) = (MC s0 s1 handN handD gT gF alE alS alM fiF fiN fiD epN epD goH goN goD plS xx plM plA plBN plBD plLN plLD plR veW veF veP vsF vsN vsD juM juP juTN juTD juO scN scD noF noN noD neF neN neD arP arB arM arU arF arR arL arT arA arS leN leD grN grD arH arLU arGU shN shD stF stN stD rest) := by
  unfold MC encC
  rfl
theorem sO_plM {xx : Int → Prop} : (MC s0 s1 handN handD gT gF alE alS alM fiF fiN fiD epN epD goH goN goD plS plP plM plA plBN plBD plLN plLD plR veW veF veP vsF vsN vsD juM juP juTN juTD juO scN scD noF noN noD neF neN neD arP arB arM arU arF arR arL arT arA arS leN leD grN grD arH arLU arGU shN shD stF stN stD rest).set 19 (.inr (5, List.set [.int (iI plS), .ref 20, .ref 21, .ref 24, .int (iI plP), .ref 27, .int (mk plM)] 6 (.int (mk xx)))) = (MC s0 s1 handN handD gT gF alE alS alM fiF fiN fiD epN epD goH goN goD plS plP xx plA plBN plBD plLN plLD plR veW veF veP vsF vsN vsD juM juP juTN juTD juO scN scD noF noN noD neF neN neD arP arB arM arU arF arR arL arT arA arS leN leD grN grD arH arLU arGU shN shD stF stN stD rest) := by
  unfold MC encC
  rfl
theorem sC_plA {xx : Int → Int} : (MC s0 s1 handN handD gT gF alE alS alM fiF fiN fiD epN epD goH goN goD plS plP plM plA plBN plBD plLN plLD plR veW veF veP vsF vsN vsD juM juP juTN juTD juO scN scD noF noN noD neF neN neD arP arB arM arU arF arR arL arT arA arS leN leD grN grD arH arLU arGU shN shD stF stN stD rest).set 20 (.inl (.int, aI 12 xx)) = (MC s0 s1 handN handD gT gF alE alS alM fiF fiN fiD epN epD goH goN goD plS plP plM xx plBN plBD plLN plLD plR veW veF veP vsF vsN vsD juM juP juTN juTD juO scN scD noF noN noD neF neN neD arP arB arM arU arF arR arL arT arA arS leN leD grN grD arH arLU arGU shN shD stF stN stD rest) := by
  unfold MC encC
  rfl
theorem kC_plA {xx : Int → Int} (h : aI 12 plA = aI 12 xx) : (MC s0 s1 handN handD gT gF alE alS alM fiF fiN fiD epN epD goH goN goD plS plP plM plA plBN plBD plLN plLD plR veW veF veP vsF vsN vsD juM juP juTN juTD juO scN scD noF noN noD neF neN neD arP arB arM arU arF arR arL arT arA arS leN leD grN grD arH arLU arGU shN shD stF stN stD rest) = (MC s0 s1 handN handD gT gF alE alS alM fiF fiN fiD epN epD goH goN goD plS plP plM xx plBN plBD plLN plLD plR veW veF veP vsF vsN vsD juM juP juTN juTD juO scN scD noF noN noD neF neN neD arP arB arM arU arF arR arL arT arA arS leN leD grN grD arH arLU arGU shN shD stF stN stD rest) := by
  unfold MC encC
  rw [h]
theorem sC_plBN {xx : Int → Int} : (MC s0 s1 handN handD gT gF alE alS alM fiF fiN fiD epN epD goH goN goD plS plP plM plA plBN plBD plLN plLD plR veW veF veP vsF vsN vsD juM juP juTN juTD juO scN scD noF noN noD neF neN neD arP arB arM arU arF arR arL arT arA arS leN leD grN grD arH arLU arGU shN shD stF stN stD rest).set 22 (.inl (.long, aL 12 xx)) = (MC s0 s1 handN handD gT gF alE alS alM fiF fiN fiD epN epD goH goN goD plS plP plM plA xx plBD plLN plLD plR veW veF veP vsF vsN vsD juM juP juTN juTD juO scN scD noF noN noD neF neN neD arP arB arM arU arF arR arL arT arA arS leN leD grN grD arH arLU arGU shN shD stF stN stD rest) := by
  unfold MC encC
  rfl
theorem kC_plBN {xx : Int → Int} (h : aL 12 plBN = aL 12 xx) : (MC s0 s1 handN handD gT gF alE alS alM fiF fiN fiD epN epD goH goN goD plS plP plM plA plBN plBD plLN plLD plR veW veF veP vsF vsN vsD juM juP juTN juTD juO scN scD noF noN noD neF neN neD arP arB arM arU arF arR arL arT arA arS leN leD grN grD arH arLU arGU shN shD stF stN stD rest) = (MC s0 s1 handN handD gT gF alE alS alM fiF fiN fiD epN epD goH goN goD plS plP plM plA xx plBD plLN plLD plR veW veF veP vsF vsN vsD juM juP juTN juTD juO scN scD noF noN noD neF neN neD arP arB arM arU arF arR arL arT arA arS leN leD grN grD arH arLU arGU shN shD stF stN stD rest) := by
  unfold MC encC
  rw [h]
theorem sC_plBD {xx : Int → Int} : (MC s0 s1 handN handD gT gF alE alS alM fiF fiN fiD epN epD goH goN goD plS plP plM plA plBN plBD plLN plLD plR veW veF veP vsF vsN vsD juM juP juTN juTD juO scN scD noF noN noD neF neN neD arP arB arM arU arF arR arL arT arA arS leN leD grN grD arH arLU arGU shN shD stF stN stD rest).set 23 (.inl (.long, aL 12 xx)) = (MC s0 s1 handN handD gT gF alE alS alM fiF fiN fiD epN epD goH goN goD plS plP plM plA plBN xx plLN plLD plR veW veF veP vsF vsN vsD juM juP juTN juTD juO scN scD noF noN noD neF neN neD arP arB arM arU arF arR arL arT arA arS leN leD grN grD arH arLU arGU shN shD stF stN stD rest) := by
  unfold MC encC
  rfl
theorem kC_plBD {xx : Int → Int} (h : aL 12 plBD = aL 12 xx) : (MC s0 s1 handN handD gT gF alE alS alM fiF fiN fiD epN epD goH goN goD plS plP plM plA plBN plBD plLN plLD plR veW veF veP vsF vsN vsD juM juP juTN juTD juO scN scD noF noN noD neF neN neD arP arB arM arU arF arR arL arT arA arS leN leD grN grD arH arLU arGU shN shD stF stN stD rest) = (MC s0 s1 handN handD gT gF alE alS alM fiF fiN fiD epN epD goH goN goD plS plP plM plA plBN xx plLN plLD plR veW veF veP vsF vsN vsD juM juP juTN juTD juO scN scD noF noN noD neF neN neD arP arB arM arU arF arR arL arT arA arS leN leD grN grD arH arLU arGU shN shD stF stN stD rest) := by
  unfold MC encC
  rw [h]
theorem sC_plLN {xx : Int → Int} : (MC s0 s1 handN handD gT gF alE alS alM fiF fiN fiD epN epD goH goN goD plS plP plM plA plBN plBD plLN plLD plR veW veF veP vsF vsN vsD juM juP juTN juTD juO scN scD noF noN noD neF neN neD arP arB arM arU arF arR arL arT arA arS leN leD grN grD arH arLU arGU shN shD stF stN stD rest).set 25 (.inl (.long, aL 12 xx)) = (MC s0 s1 handN handD gT gF alE alS alM fiF fiN fiD epN epD goH goN goD plS plP plM plA plBN plBD xx plLD plR veW veF veP vsF vsN vsD juM juP juTN juTD juO scN scD noF noN noD neF neN neD arP arB arM arU arF arR arL arT arA arS leN leD grN grD arH arLU arGU shN shD stF stN stD rest) := by
  unfold MC encC
  rfl
theorem kC_plLN {xx : Int → Int} (h : aL 12 plLN = aL 12 xx) : (MC s0 s1 handN handD gT gF alE alS alM fiF fiN fiD epN epD goH goN goD plS plP plM plA plBN plBD plLN plLD plR veW veF veP vsF vsN vsD juM juP juTN juTD juO scN scD noF noN noD neF neN neD arP arB arM arU arF arR arL arT arA arS leN leD grN grD arH arLU arGU shN shD stF stN stD rest) = (MC s0 s1 handN handD gT gF alE alS alM fiF fiN fiD epN epD goH goN goD plS plP plM plA plBN plBD xx plLD plR veW veF veP vsF vsN vsD juM juP juTN juTD juO scN scD noF noN noD neF neN neD arP arB arM arU arF arR arL arT arA arS leN leD grN grD arH arLU arGU shN shD stF stN stD rest) := by
  unfold MC encC
  rw [h]
theorem sC_plLD {xx : Int → Int} : (MC s0 s1 handN handD gT gF alE alS alM fiF fiN fiD epN epD goH goN goD plS plP plM plA plBN plBD plLN plLD plR veW veF veP vsF vsN vsD juM juP juTN juTD juO scN scD noF noN noD neF neN neD arP arB arM arU arF arR arL arT arA arS leN leD grN grD arH arLU arGU shN shD stF stN stD rest).set 26 (.inl (.long, aL 12 xx)) = (MC s0 s1 handN handD gT gF alE alS alM fiF fiN fiD epN epD goH goN goD plS plP plM plA plBN plBD plLN xx plR veW veF veP vsF vsN vsD juM juP juTN juTD juO scN scD noF noN noD neF neN neD arP arB arM arU arF arR arL arT arA arS leN leD grN grD arH arLU arGU shN shD stF stN stD rest) := by
  unfold MC encC
  rfl
theorem kC_plLD {xx : Int → Int} (h : aL 12 plLD = aL 12 xx) : (MC s0 s1 handN handD gT gF alE alS alM fiF fiN fiD epN epD goH goN goD plS plP plM plA plBN plBD plLN plLD plR veW veF veP vsF vsN vsD juM juP juTN juTD juO scN scD noF noN noD neF neN neD arP arB arM arU arF arR arL arT arA arS leN leD grN grD arH arLU arGU shN shD stF stN stD rest) = (MC s0 s1 handN handD gT gF alE alS alM fiF fiN fiD epN epD goH goN goD plS plP plM plA plBN plBD plLN xx plR veW veF veP vsF vsN vsD juM juP juTN juTD juO scN scD noF noN noD neF neN neD arP arB arM arU arF arR arL arT arA arS leN leD grN grD arH arLU arGU shN shD stF stN stD rest) := by
  unfold MC encC
  rw [h]
theorem sC_plR {xx : Int → Int} : (MC s0 s1 handN handD gT gF alE alS alM fiF fiN fiD epN epD goH goN goD plS plP plM plA plBN plBD plLN plLD plR veW veF veP vsF vsN vsD juM juP juTN juTD juO scN scD noF noN noD neF neN neD arP arB arM arU arF arR arL arT arA arS leN leD grN grD arH arLU arGU shN shD stF stN stD rest).set 27 (.inl (.int, aI 24 xx)) = (MC s0 s1 handN handD gT gF alE alS alM fiF fiN fiD epN epD goH goN goD plS plP plM plA plBN plBD plLN plLD xx veW veF veP vsF vsN vsD juM juP juTN juTD juO scN scD noF noN noD neF neN neD arP arB arM arU arF arR arL arT arA arS leN leD grN grD arH arLU arGU shN shD stF stN stD rest) := by
  unfold MC encC
  rfl
theorem kC_plR {xx : Int → Int} (h : aI 24 plR = aI 24 xx) : (MC s0 s1 handN handD gT gF alE alS alM fiF fiN fiD epN epD goH goN goD plS plP plM plA plBN plBD plLN plLD plR veW veF veP vsF vsN vsD juM juP juTN juTD juO scN scD noF noN noD neF neN neD arP arB arM arU arF arR arL arT arA arS leN leD grN grD arH arLU arGU shN shD stF stN stD rest) = (MC s0 s1 handN handD gT gF alE alS alM fiF fiN fiD epN epD goH goN goD plS plP plM plA plBN plBD plLN plLD xx veW veF veP vsF vsN vsD juM juP juTN juTD juO scN scD noF noN noD neF neN neD arP arB arM arU arF arR arL arT arA arS leN leD grN grD arH arLU arGU shN shD stF stN stD rest) := by
  unfold MC encC
  rw [h]
theorem sO_veW {xx : Int} : (MC s0 s1 handN handD gT gF alE alS alM fiF fiN fiD epN epD goH goN goD plS plP plM plA plBN plBD plLN plLD plR veW veF veP vsF vsN vsD juM juP juTN juTD juO scN scD noF noN noD neF neN neD arP arB arM arU arF arR arL arT arA arS leN leD grN grD arH arLU arGU shN shD stF stN stD rest).set 28 (.inr (9, List.set [.int (iI veW), .int (iI veF), .int (iI veP), .ref 29] 0 (.int (iI xx)))) = (MC s0 s1 handN handD gT gF alE alS alM fiF fiN fiD epN epD goH goN goD plS plP plM plA plBN plBD plLN plLD plR xx veF veP vsF vsN vsD juM juP juTN juTD juO scN scD noF noN noD neF neN neD arP arB arM arU arF arR arL arT arA arS leN leD grN grD arH arLU arGU shN shD stF stN stD rest) := by
  unfold MC encC
  rfl
theorem sO_veF {xx : Int} : (MC s0 s1 handN handD gT gF alE alS alM fiF fiN fiD epN epD goH goN goD plS plP plM plA plBN plBD plLN plLD plR veW veF veP vsF vsN vsD juM juP juTN juTD juO scN scD noF noN noD neF neN neD arP arB arM arU arF arR arL arT arA arS leN leD grN grD arH arLU arGU shN shD stF stN stD rest).set 28 (.inr (9, List.set [.int (iI veW), .int (iI veF), .int (iI veP), .ref 29] 1 (.int (iI xx)))) = (MC s0 s1 handN handD gT gF alE alS alM fiF fiN fiD epN epD goH goN goD plS plP plM plA plBN plBD plLN plLD plR veW xx veP vsF vsN vsD juM juP juTN juTD juO scN scD noF noN noD neF neN neD arP arB arM arU arF arR arL arT arA arS leN leD grN grD arH arLU arGU shN shD stF stN stD rest) := by
  unfold MC encC
  rfl
theorem sO_veP {xx : Int} : (MC s0 s1 handN handD gT gF alE alS alM fiF fiN fiD epN epD goH goN goD plS plP plM plA plBN plBD plLN plLD plR veW veF veP vsF vsN vsD juM juP juTN juTD juO scN scD noF noN noD neF neN neD arP arB arM arU arF arR arL arT arA arS leN leD grN grD arH arLU arGU shN shD stF stN stD rest).set 28 (.inr (9, List.set [.int (iI veW), .int (iI veF), .int (iI veP), .ref 29] 2 (.int (iI xx)))) = (MC s0 s1 handN handD gT gF alE alS alM fiF fiN fiD epN epD goH goN goD plS plP plM plA plBN plBD plLN plLD plR veW veF xx vsF vsN vsD juM juP juTN juTD juO scN scD noF noN noD neF neN neD arP arB arM arU arF arR arL arT arA arS leN leD grN grD arH arLU arGU shN shD stF stN stD rest) := by
  unfold MC encC
  rfl
theorem sO_vsF {xx : Int → Prop} : (MC s0 s1 handN handD gT gF alE alS alM fiF fiN fiD epN epD goH goN goD plS plP plM plA plBN plBD plLN plLD plR veW veF veP vsF vsN vsD juM juP juTN juTD juO scN scD noF noN noD neF neN neD arP arB arM arU arF arR arL arT arA arS leN leD grN grD arH arLU arGU shN shD stF stN stD rest).set 29 (.inr (6, List.set [.int (mk vsF), .ref 30] 0 (.int (mk xx)))) = (MC s0 s1 handN handD gT gF alE alS alM fiF fiN fiD epN epD goH goN goD plS plP plM plA plBN plBD plLN plLD plR veW veF veP xx vsN vsD juM juP juTN juTD juO scN scD noF noN noD neF neN neD arP arB arM arU arF arR arL arT arA arS leN leD grN grD arH arLU arGU shN shD stF stN stD rest) := by
  unfold MC encC
  rfl
theorem sC_vsN {xx : Int → Int} : (MC s0 s1 handN handD gT gF alE alS alM fiF fiN fiD epN epD goH goN goD plS plP plM plA plBN plBD plLN plLD plR veW veF veP vsF vsN vsD juM juP juTN juTD juO scN scD noF noN noD neF neN neD arP arB arM arU arF arR arL arT arA arS leN leD grN grD arH arLU arGU shN shD stF stN stD rest).set 31 (.inl (.long, aL 8 xx)) = (MC s0 s1 handN handD gT gF alE alS alM fiF fiN fiD epN epD goH goN goD plS plP plM plA plBN plBD plLN plLD plR veW veF veP vsF xx vsD juM juP juTN juTD juO scN scD noF noN noD neF neN neD arP arB arM arU arF arR arL arT arA arS leN leD grN grD arH arLU arGU shN shD stF stN stD rest) := by
  unfold MC encC
  rfl
theorem kC_vsN {xx : Int → Int} (h : aL 8 vsN = aL 8 xx) : (MC s0 s1 handN handD gT gF alE alS alM fiF fiN fiD epN epD goH goN goD plS plP plM plA plBN plBD plLN plLD plR veW veF veP vsF vsN vsD juM juP juTN juTD juO scN scD noF noN noD neF neN neD arP arB arM arU arF arR arL arT arA arS leN leD grN grD arH arLU arGU shN shD stF stN stD rest) = (MC s0 s1 handN handD gT gF alE alS alM fiF fiN fiD epN epD goH goN goD plS plP plM plA plBN plBD plLN plLD plR veW veF veP vsF xx vsD juM juP juTN juTD juO scN scD noF noN noD neF neN neD arP arB arM arU arF arR arL arT arA arS leN leD grN grD arH arLU arGU shN shD stF stN stD rest) := by
  unfold MC encC
  rw [h]
theorem sC_vsD {xx : Int → Int} : (MC s0 s1 handN handD gT gF alE alS alM fiF fiN fiD epN epD goH goN goD plS plP plM plA plBN plBD plLN plLD plR veW veF veP vsF vsN vsD juM juP juTN juTD juO scN scD noF noN noD neF neN neD arP arB arM arU arF arR arL arT arA arS leN leD grN grD arH arLU arGU shN shD stF stN stD rest).set 32 (.inl (.long, aL 8 xx)) = (MC s0 s1 handN handD gT gF alE alS alM fiF fiN fiD epN epD goH goN goD plS plP plM plA plBN plBD plLN plLD plR veW veF veP vsF vsN xx juM juP juTN juTD juO scN scD noF noN noD neF neN neD arP arB arM arU arF arR arL arT arA arS leN leD grN grD arH arLU arGU shN shD stF stN stD rest) := by
  unfold MC encC
  rfl
theorem kC_vsD {xx : Int → Int} (h : aL 8 vsD = aL 8 xx) : (MC s0 s1 handN handD gT gF alE alS alM fiF fiN fiD epN epD goH goN goD plS plP plM plA plBN plBD plLN plLD plR veW veF veP vsF vsN vsD juM juP juTN juTD juO scN scD noF noN noD neF neN neD arP arB arM arU arF arR arL arT arA arS leN leD grN grD arH arLU arGU shN shD stF stN stD rest) = (MC s0 s1 handN handD gT gF alE alS alM fiF fiN fiD epN epD goH goN goD plS plP plM plA plBN plBD plLN plLD plR veW veF veP vsF vsN xx juM juP juTN juTD juO scN scD noF noN noD neF neN neD arP arB arM arU arF arR arL arT arA arS leN leD grN grD arH arLU arGU shN shD stF stN stD rest) := by
  unfold MC encC
  rw [h]
theorem sO_juM {xx : Int → Prop} : (MC s0 s1 handN handD gT gF alE alS alM fiF fiN fiD epN epD goH goN goD plS plP plM plA plBN plBD plLN plLD plR veW veF veP vsF vsN vsD juM juP juTN juTD juO scN scD noF noN noD neF neN neD arP arB arM arU arF arR arL arT arA arS leN leD grN grD arH arLU arGU shN shD stF stN stD rest).set 33 (.inr (4, List.set [.ref 34, .ref 37, .ref 38, .ref 41, .ref 45, .int (mk juM), .int (iI juP)] 5 (.int (mk xx)))) = (MC s0 s1 handN handD gT gF alE alS alM fiF fiN fiD epN epD goH goN goD plS plP plM plA plBN plBD plLN plLD plR veW veF veP vsF vsN vsD xx juP juTN juTD juO scN scD noF noN noD neF neN neD arP arB arM arU arF arR arL arT arA arS leN leD grN grD arH arLU arGU shN shD stF stN stD rest) := by
  unfold MC encC
  rfl
theorem sO_juP {xx : Int} : (MC s0 s1 handN handD gT gF alE alS alM fiF fiN fiD epN epD goH goN goD plS plP plM plA plBN plBD plLN plLD plR veW veF veP vsF vsN vsD juM juP juTN juTD juO scN scD noF noN noD neF neN neD arP arB arM arU arF arR arL arT arA arS leN leD grN grD arH arLU arGU shN shD stF stN stD rest).set 33 (.inr (4, List.set [.ref 34, .ref 37, .ref 38, .ref 41, .ref 45, .int (mk juM), .int (iI juP)] 6 (.int (iI xx)))) = (MC s0 s1 handN handD gT gF alE alS alM fiF fiN fiD epN epD goH goN goD plS plP plM plA plBN plBD plLN plLD plR veW veF veP vsF vsN vsD juM xx juTN juTD juO scN scD noF noN noD neF neN neD arP arB arM arU arF arR arL arT arA arS leN leD grN grD arH arLU arGU shN shD stF stN stD rest) := by
  unfold MC encC
  rfl
theorem sC_juTN {xx : Int → Int} : (MC s0 s1 handN handD gT gF alE alS alM fiF fiN fiD epN epD goH goN goD plS plP plM plA plBN plBD plLN plLD plR veW veF veP vsF vsN vsD juM juP juTN juTD juO scN scD noF noN noD neF neN neD arP arB arM arU arF arR arL arT arA arS leN leD grN grD arH arLU arGU shN shD stF stN stD rest).set 35 (.inl (.long, aL 24 xx)) = (MC s0 s1 handN handD gT gF alE alS alM fiF fiN fiD epN epD goH goN goD plS plP plM plA plBN plBD plLN plLD plR veW veF veP vsF vsN vsD juM juP xx juTD juO scN scD noF noN noD neF neN neD arP arB arM arU arF arR arL arT arA arS leN leD grN grD arH arLU arGU shN shD stF stN stD rest) := by
  unfold MC encC
  rfl
theorem kC_juTN {xx : Int → Int} (h : aL 24 juTN = aL 24 xx) : (MC s0 s1 handN handD gT gF alE alS alM fiF fiN fiD epN epD goH goN goD plS plP plM plA plBN plBD plLN plLD plR veW veF veP vsF vsN vsD juM juP juTN juTD juO scN scD noF noN noD neF neN neD arP arB arM arU arF arR arL arT arA arS leN leD grN grD arH arLU arGU shN shD stF stN stD rest) = (MC s0 s1 handN handD gT gF alE alS alM fiF fiN fiD epN epD goH goN goD plS plP plM plA plBN plBD plLN plLD plR veW veF veP vsF vsN vsD juM juP xx juTD juO scN scD noF noN noD neF neN neD arP arB arM arU arF arR arL arT arA arS leN leD grN grD arH arLU arGU shN shD stF stN stD rest) := by
  unfold MC encC
  rw [h]
theorem sC_juTD {xx : Int → Int} : (MC s0 s1 handN handD gT gF alE alS alM fiF fiN fiD epN epD goH goN goD plS plP plM plA plBN plBD plLN plLD plR veW veF veP vsF vsN vsD juM juP juTN juTD juO scN scD noF noN noD neF neN neD arP arB arM arU arF arR arL arT arA arS leN leD grN grD arH arLU arGU shN shD stF stN stD rest).set 36 (.inl (.long, aL 24 xx)) = (MC s0 s1 handN handD gT gF alE alS alM fiF fiN fiD epN epD goH goN goD plS plP plM plA plBN plBD plLN plLD plR veW veF veP vsF vsN vsD juM juP juTN xx juO scN scD noF noN noD neF neN neD arP arB arM arU arF arR arL arT arA arS leN leD grN grD arH arLU arGU shN shD stF stN stD rest) := by
  unfold MC encC
  rfl
theorem kC_juTD {xx : Int → Int} (h : aL 24 juTD = aL 24 xx) : (MC s0 s1 handN handD gT gF alE alS alM fiF fiN fiD epN epD goH goN goD plS plP plM plA plBN plBD plLN plLD plR veW veF veP vsF vsN vsD juM juP juTN juTD juO scN scD noF noN noD neF neN neD arP arB arM arU arF arR arL arT arA arS leN leD grN grD arH arLU arGU shN shD stF stN stD rest) = (MC s0 s1 handN handD gT gF alE alS alM fiF fiN fiD epN epD goH goN goD plS plP plM plA plBN plBD plLN plLD plR veW veF veP vsF vsN vsD juM juP juTN xx juO scN scD noF noN noD neF neN neD arP arB arM arU arF arR arL arT arA arS leN leD grN grD arH arLU arGU shN shD stF stN stD rest) := by
  unfold MC encC
  rw [h]
theorem sC_juO {xx : Int → Int} : (MC s0 s1 handN handD gT gF alE alS alM fiF fiN fiD epN epD goH goN goD plS plP plM plA plBN plBD plLN plLD plR veW veF veP vsF vsN vsD juM juP juTN juTD juO scN scD noF noN noD neF neN neD arP arB arM arU arF arR arL arT arA arS leN leD grN grD arH arLU arGU shN shD stF stN stD rest).set 37 (.inl (.int, aI 24 xx)) = (MC s0 s1 handN handD gT gF alE alS alM fiF fiN fiD epN epD goH goN goD plS plP plM plA plBN plBD plLN plLD plR veW veF veP vsF vsN vsD juM juP juTN juTD xx scN scD noF noN noD neF neN neD arP arB arM arU arF arR arL arT arA arS leN leD grN grD arH arLU arGU shN shD stF stN stD rest) := by
  unfold MC encC
  rfl
theorem kC_juO {xx : Int → Int} (h : aI 24 juO = aI 24 xx) : (MC s0 s1 handN handD gT gF alE alS alM fiF fiN fiD epN epD goH goN goD plS plP plM plA plBN plBD plLN plLD plR veW veF veP vsF vsN vsD juM juP juTN juTD juO scN scD noF noN noD neF neN neD arP arB arM arU arF arR arL arT arA arS leN leD grN grD arH arLU arGU shN shD stF stN stD rest) = (MC s0 s1 handN handD gT gF alE alS alM fiF fiN fiD epN epD goH goN goD plS plP plM plA plBN plBD plLN plLD plR veW veF veP vsF vsN vsD juM juP juTN juTD xx scN scD noF noN noD neF neN neD arP arB arM arU arF arR arL arT arA arS leN leD grN grD arH arLU arGU shN shD stF stN stD rest) := by
  unfold MC encC
  rw [h]
theorem sC_scN {xx : Int → Int} : (MC s0 s1 handN handD gT gF alE alS alM fiF fiN fiD epN epD goH goN goD plS plP plM plA plBN plBD plLN plLD plR veW veF veP vsF vsN vsD juM juP juTN juTD juO scN scD noF noN noD neF neN neD arP arB arM arU arF arR arL arT arA arS leN leD grN grD arH arLU arGU shN shD stF stN stD rest).set 39 (.inl (.long, aL 1 xx)) = (MC s0 s1 handN handD gT gF alE alS alM fiF fiN fiD epN epD goH goN goD plS plP plM plA plBN plBD plLN plLD plR veW veF veP vsF vsN vsD juM juP juTN juTD juO xx scD noF noN noD neF neN neD arP arB arM arU arF arR arL arT arA arS leN leD grN grD arH arLU arGU shN shD stF stN stD rest) := by
  unfold MC encC
  rfl
theorem kC_scN {xx : Int → Int} (h : aL 1 scN = aL 1 xx) : (MC s0 s1 handN handD gT gF alE alS alM fiF fiN fiD epN epD goH goN goD plS plP plM plA plBN plBD plLN plLD plR veW veF veP vsF vsN vsD juM juP juTN juTD juO scN scD noF noN noD neF neN neD arP arB arM arU arF arR arL arT arA arS leN leD grN grD arH arLU arGU shN shD stF stN stD rest) = (MC s0 s1 handN handD gT gF alE alS alM fiF fiN fiD epN epD goH goN goD plS plP plM plA plBN plBD plLN plLD plR veW veF veP vsF vsN vsD juM juP juTN juTD juO xx scD noF noN noD neF neN neD arP arB arM arU arF arR arL arT arA arS leN leD grN grD arH arLU arGU shN shD stF stN stD rest) := by
  unfold MC encC
  rw [h]
theorem sC_scD {xx : Int → Int} : (MC s0 s1 handN handD gT gF alE alS alM fiF fiN fiD epN epD goH goN goD plS plP plM plA plBN plBD plLN plLD plR veW veF veP vsF vsN vsD juM juP juTN juTD juO scN scD noF noN noD neF neN neD arP arB arM arU arF arR arL arT arA arS leN leD grN grD arH arLU arGU shN shD stF stN stD rest).set 40 (.inl (.long, aL 1 xx)) = (MC s0 s1 handN handD gT gF alE alS alM fiF fiN fiD epN epD goH goN goD plS plP plM plA plBN plBD plLN plLD plR veW veF veP vsF vsN vsD juM juP juTN juTD juO scN xx noF noN noD neF neN neD arP arB arM arU arF arR arL arT arA arS leN leD grN grD arH arLU arGU shN shD stF stN stD rest) := by
  unfold MC encC
  rfl
theorem kC_scD {xx : Int → Int} (h : aL 1 scD = aL 1 xx) : (MC s0 s1 handN handD gT gF alE alS alM fiF fiN fiD epN epD goH goN goD plS plP plM plA plBN plBD plLN plLD plR veW veF veP vsF vsN vsD juM juP juTN juTD juO scN scD noF noN noD neF neN neD arP arB arM arU arF arR arL arT arA arS leN leD grN grD arH arLU arGU shN shD stF stN stD rest) = (MC s0 s1 handN handD gT gF alE alS alM fiF fiN fiD epN epD goH goN goD plS plP plM plA plBN plBD plLN plLD plR veW veF veP vsF vsN vsD juM juP juTN juTD juO scN xx noF noN noD neF neN neD arP arB arM arU arF arR arL arT arA arS leN leD grN grD arH arLU arGU shN shD stF stN stD rest) := by
  unfold MC encC
  rw [h]
theorem sO_noF {xx : Int → Prop} : (MC s0 s1 handN handD gT gF alE alS alM fiF fiN fiD epN epD goH goN goD plS plP plM plA plBN plBD plLN plLD plR veW veF veP vsF vsN vsD juM juP juTN juTD juO scN scD noF noN noD neF neN neD arP arB arM arU arF arR arL arT arA arS leN leD grN grD arH arLU arGU shN shD stF stN stD rest).set 41 (.inr (6, List.set [.int (mk noF), .ref 42] 0 (.int (mk xx)))) = (MC s0 s1 handN handD gT gF alE alS alM fiF fiN fiD epN epD goH goN goD plS plP plM plA plBN plBD plLN plLD plR veW veF veP vsF vsN vsD juM juP juTN juTD juO scN scD xx noN noD neF neN neD arP arB arM arU arF arR arL arT arA arS leN leD grN grD arH arLU arGU shN shD stF stN stD rest) := by
  unfold MC encC
  rfl
theorem sC_noN {xx : Int → Int} : (MC s0 s1 handN handD gT gF alE alS alM fiF fiN fiD epN epD goH goN goD plS plP plM plA plBN plBD plLN plLD plR veW veF veP vsF vsN vsD juM juP juTN juTD juO scN scD noF noN noD neF neN neD arP arB arM arU arF arR arL arT arA arS leN leD grN grD arH arLU arGU shN shD stF stN stD rest).set 43 (.inl (.long, aL 8 xx)) = (MC s0 s1 handN handD gT gF alE alS alM fiF fiN fiD epN epD goH goN goD plS plP plM plA plBN plBD plLN plLD plR veW veF veP vsF vsN vsD juM juP juTN juTD juO scN scD noF xx noD neF neN neD arP arB arM arU arF arR arL arT arA arS leN leD grN grD arH arLU arGU shN shD stF stN stD rest) := by
  unfold MC encC
  rfl
theorem kC_noN {xx : Int → Int} (h : aL 8 noN = aL 8 xx) : (MC s0 s1 handN handD gT gF alE alS alM fiF fiN fiD epN epD goH goN goD plS plP plM plA plBN plBD plLN plLD plR veW veF veP vsF vsN vsD juM juP juTN juTD juO scN scD noF noN noD neF neN neD arP arB arM arU arF arR arL arT arA arS leN leD grN grD arH arLU arGU shN shD stF stN stD rest) = (MC s0 s1 handN handD gT gF alE alS alM fiF fiN fiD epN epD goH goN goD plS plP plM plA plBN plBD plLN plLD plR veW veF veP vsF vsN vsD juM juP juTN juTD juO scN scD noF xx noD neF neN neD arP arB arM arU arF arR arL arT arA arS leN leD grN grD arH arLU arGU shN shD stF stN stD rest) := by
  unfold MC encC
  rw [h]
theorem sC_noD {xx : Int → Int} : (MC s0 s1 handN handD gT gF alE alS alM fiF fiN fiD epN epD goH goN goD plS plP plM plA plBN plBD plLN plLD plR veW veF veP vsF vsN vsD juM juP juTN juTD juO scN scD noF noN noD neF neN neD arP arB arM arU arF arR arL arT arA arS leN leD grN grD arH arLU arGU shN shD stF stN stD rest).set 44 (.inl (.long, aL 8 xx)) = (MC s0 s1 handN handD gT gF alE alS alM fiF fiN fiD epN epD goH goN goD plS plP plM plA plBN plBD plLN plLD plR veW veF veP vsF vsN vsD juM juP juTN juTD juO scN scD noF noN xx neF neN neD arP arB arM arU arF arR arL arT arA arS leN leD grN grD arH arLU arGU shN shD stF stN stD rest) := by
  unfold MC encC
  rfl
theorem kC_noD {xx : Int → Int} (h : aL 8 noD = aL 8 xx) : (MC s0 s1 handN handD gT gF alE alS alM fiF fiN fiD epN epD goH goN goD plS plP plM plA plBN plBD plLN plLD plR veW veF veP vsF vsN vsD juM juP juTN juTD juO scN scD noF noN noD neF neN neD arP arB arM arU arF arR arL arT arA arS leN leD grN grD arH arLU arGU shN shD stF stN stD rest) = (MC s0 s1 handN handD gT gF alE alS alM fiF fiN fiD epN epD goH goN goD plS plP plM plA plBN plBD plLN plLD plR veW veF veP vsF vsN vsD juM juP juTN juTD juO scN scD noF noN xx neF neN neD arP arB arM arU arF arR arL arT arA arS leN leD grN grD arH arLU arGU shN shD stF stN stD rest) := by
  unfold MC encC
  rw [h]
theorem sO_neF {xx : Int → Prop} : (MC s0 s1 handN handD gT gF alE alS alM fiF fiN fiD epN epD goH goN goD plS plP plM plA plBN plBD plLN plLD plR veW veF veP vsF vsN vsD juM juP juTN juTD juO scN scD noF noN noD neF neN neD arP arB arM arU arF arR arL arT arA arS leN leD grN grD arH arLU arGU shN shD stF stN stD rest).set 45 (.inr (6, List.set [.int (mk neF), .ref 46] 0 (.int (mk xx)))) = (MC s0 s1 handN handD gT gF alE alS alM fiF fiN fiD epN epD goH goN goD plS plP plM plA plBN plBD plLN plLD plR veW veF veP vsF vsN vsD juM juP juTN juTD juO scN scD noF noN noD xx neN neD arP arB arM arU arF arR arL arT arA arS leN leD grN grD arH arLU arGU shN shD stF stN stD rest) := by
  unfold MC encC
  rfl
theorem sC_neN {xx : Int → Int} : (MC s0 s1 handN handD gT gF alE alS alM fiF fiN fiD epN epD goH goN goD plS plP plM plA plBN plBD plLN plLD plR veW veF veP vsF vsN vsD juM juP juTN juTD juO scN scD noF noN noD neF neN neD arP arB arM arU arF arR arL arT arA arS leN leD grN grD arH arLU arGU shN shD stF stN stD rest).set 47 (.inl (.long, aL 8 xx)) = (MC s0 s1 handN handD gT gF alE alS alM fiF fiN fiD epN epD goH goN goD plS plP plM plA plBN plBD plLN plLD plR veW veF veP vsF vsN vsD juM juP juTN juTD juO scN scD noF noN noD neF xx neD arP arB arM arU arF arR arL arT arA arS leN leD grN grD arH arLU arGU shN shD stF stN stD rest) := by
  unfold MC encC
  rfl
theorem kC_neN {xx : Int → Int} (h : aL 8 neN = aL 8 xx) : (MC s0 s1 handN handD gT gF alE alS alM fiF fiN fiD epN epD goH goN goD plS plP plM plA plBN plBD plLN plLD plR veW veF veP vsF vsN vsD juM juP juTN juTD juO scN scD noF noN noD neF neN neD arP arB arM arU arF arR arL arT arA arS leN leD grN grD arH arLU arGU shN shD stF stN stD rest) = (MC s0 s1 handN handD gT gF alE alS alM fiF fiN fiD epN epD goH goN goD plS plP plM plA plBN plBD plLN plLD plR veW veF veP vsF vsN vsD juM juP juTN juTD juO scN scD noF noN noD neF xx neD arP arB arM arU arF arR arL arT arA arS leN leD grN grD arH arLU arGU shN shD stF stN stD rest) := by
  unfold MC encC
  rw [h]
theorem sC_neD {xx : Int → Int} : (MC s0 s1 handN handD gT gF alE alS alM fiF fiN fiD epN epD goH goN goD plS plP plM plA plBN plBD plLN plLD plR veW veF veP vsF vsN vsD juM juP juTN juTD juO scN scD noF noN noD neF neN neD arP arB arM arU arF arR arL arT arA arS leN leD grN grD arH arLU arGU shN shD stF stN stD rest).set 48 (.inl (.long, aL 8 xx)) = (MC s0 s1 handN handD gT gF alE alS alM fiF fiN fiD epN epD goH goN goD plS plP plM plA plBN plBD plLN plLD plR veW veF veP vsF vsN vsD juM juP juTN juTD juO scN scD noF noN noD neF neN xx arP arB arM arU arF arR arL arT arA arS leN leD grN grD arH arLU arGU shN shD stF stN stD rest) := by
  unfold MC encC
  rfl
theorem kC_neD {xx : Int → Int} (h : aL 8 neD = aL 8 xx) : (MC s0 s1 handN handD gT gF alE alS alM fiF fiN fiD epN epD goH goN goD plS plP plM plA plBN plBD plLN plLD plR veW veF veP vsF vsN vsD juM juP juTN juTD juO scN scD noF noN noD neF neN neD arP arB arM arU arF arR arL arT arA arS leN leD grN grD arH arLU arGU shN shD stF stN stD rest) = (MC s0 s1 handN handD gT gF alE alS alM fiF fiN fiD epN epD goH goN goD plS plP plM plA plBN plBD plLN plLD plR veW veF veP vsF vsN vsD juM juP juTN juTD juO scN scD noF noN noD neF neN xx arP arB arM arU arF arR arL arT arA arS leN leD grN grD arH arLU arGU shN shD stF stN stD rest) := by
  unfold MC encC
  rw [h]
theorem sO_arP {xx : Int} : (MC s0 s1 handN handD gT gF alE alS alM fiF fiN fiD epN epD goH goN goD plS plP plM plA plBN plBD plLN plLD plR veW veF veP vsF vsN vsD juM juP juTN juTD juO scN scD noF noN noD neF neN neD arP arB arM arU arF arR arL arT arA arS leN leD grN grD arH arLU arGU shN shD stF stN stD rest).set 49 (.inr (2, List.set [.ref 50, .int (iI arP), .ref 51, .ref 52, .ref 53, .int (iI arB), .int (mk arM), .ref 54, .ref 55, .ref 56, .ref 59, .ref 62, .ref 63, .ref 64, .long (lI arU), .ref 65, .int (iI arF)] 1 (.int (iI xx)))) = (MC s0 s1 handN handD gT gF alE alS alM fiF fiN fiD epN epD goH goN goD plS plP plM plA plBN plBD plLN plLD plR veW veF veP vsF vsN vsD juM juP juTN juTD juO scN scD noF noN noD neF neN neD xx arB arM arU arF arR arL arT arA arS leN leD grN grD arH arLU arGU shN shD stF stN stD rest) := by
  unfold MC encC
  rfl
theorem sO_arB {xx : Int} : (MC s0 s1 handN handD gT gF alE alS alM fiF fiN fiD epN epD goH goN goD plS plP plM plA plBN plBD plLN plLD plR veW veF veP vsF vsN vsD juM juP juTN juTD juO scN scD noF noN noD neF neN neD arP arB arM arU arF arR arL arT arA arS leN leD grN grD arH arLU arGU shN shD stF stN stD rest).set 49 (.inr (2, List.set [.ref 50, .int (iI arP), .ref 51, .ref 52, .ref 53, .int (iI arB), .int (mk arM), .ref 54, .ref 55, .ref 56, .ref 59, .ref 62, .ref 63, .ref 64, .long (lI arU), .ref 65, .int (iI arF)] 5 (.int (iI xx)))) = (MC s0 s1 handN handD gT gF alE alS alM fiF fiN fiD epN epD goH goN goD plS plP plM plA plBN plBD plLN plLD plR veW veF veP vsF vsN vsD juM juP juTN juTD juO scN scD noF noN noD neF neN neD arP xx arM arU arF arR arL arT arA arS leN leD grN grD arH arLU arGU shN shD stF stN stD rest) := by
  unfold MC encC
  rfl
theorem sO_arM {xx : Int → Prop} : (MC s0 s1 handN handD gT gF alE alS alM fiF fiN fiD epN epD goH goN goD plS plP plM plA plBN plBD plLN plLD plR veW veF veP vsF vsN vsD juM juP juTN juTD juO scN scD noF noN noD neF neN neD arP arB arM arU arF arR arL arT arA arS leN leD grN grD arH arLU arGU shN shD stF stN stD rest).set 49 (.inr (2, List.set [.ref 50, .int (iI arP), .ref 51, .ref 52, .ref 53, .int (iI arB), .int (mk arM), .ref 54, .ref 55, .ref 56, .ref 59, .ref 62, .ref 63, .ref 64, .long (lI arU), .ref 65, .int (iI arF)] 6 (.int (mk xx)))) = (MC s0 s1 handN handD gT gF alE alS alM fiF fiN fiD epN epD goH goN goD plS plP plM plA plBN plBD plLN plLD plR veW veF veP vsF vsN vsD juM juP juTN juTD juO scN scD noF noN noD neF neN neD arP arB xx arU arF arR arL arT arA arS leN leD grN grD arH arLU arGU shN shD stF stN stD rest) := by
  unfold MC encC
  rfl
theorem sO_arU {xx : Int} : (MC s0 s1 handN handD gT gF alE alS alM fiF fiN fiD epN epD goH goN goD plS plP plM plA plBN plBD plLN plLD plR veW veF veP vsF vsN vsD juM juP juTN juTD juO scN scD noF noN noD neF neN neD arP arB arM arU arF arR arL arT arA arS leN leD grN grD arH arLU arGU shN shD stF stN stD rest).set 49 (.inr (2, List.set [.ref 50, .int (iI arP), .ref 51, .ref 52, .ref 53, .int (iI arB), .int (mk arM), .ref 54, .ref 55, .ref 56, .ref 59, .ref 62, .ref 63, .ref 64, .long (lI arU), .ref 65, .int (iI arF)] 14 (.long (lI xx)))) = (MC s0 s1 handN handD gT gF alE alS alM fiF fiN fiD epN epD goH goN goD plS plP plM plA plBN plBD plLN plLD plR veW veF veP vsF vsN vsD juM juP juTN juTD juO scN scD noF noN noD neF neN neD arP arB arM xx arF arR arL arT arA arS leN leD grN grD arH arLU arGU shN shD stF stN stD rest) := by
  unfold MC encC
  rfl
theorem sO_arF {xx : Int} : (MC s0 s1 handN handD gT gF alE alS alM fiF fiN fiD epN epD goH goN goD plS plP plM plA plBN plBD plLN plLD plR veW veF veP vsF vsN vsD juM juP juTN juTD juO scN scD noF noN noD neF neN neD arP arB arM arU arF arR arL arT arA arS leN leD grN grD arH arLU arGU shN shD stF stN stD rest).set 49 (.inr (2, List.set [.ref 50, .int (iI arP), .ref 51, .ref 52, .ref 53, .int (iI arB), .int (mk arM), .ref 54, .ref 55, .ref 56, .ref 59, .ref 62, .ref 63, .ref 64, .long (lI arU), .ref 65, .int (iI arF)] 16 (.int (iI xx)))) = (MC s0 s1 handN handD gT gF alE alS alM fiF fiN fiD epN epD goH goN goD plS plP plM plA plBN plBD plLN plLD plR veW veF veP vsF vsN vsD juM juP juTN juTD juO scN scD noF noN noD neF neN neD arP arB arM arU xx arR arL arT arA arS leN leD grN grD arH arLU arGU shN shD stF stN stD rest) := by
  unfold MC encC
  rfl
theorem sC_arR {xx : Int → Int} : (MC s0 s1 handN handD gT gF alE alS alM fiF fiN fiD epN epD goH goN goD plS plP plM plA plBN plBD plLN plLD plR veW veF veP vsF vsN vsD juM juP juTN juTD juO scN scD noF noN noD neF neN neD arP arB arM arU arF arR arL arT arA arS leN leD grN grD arH arLU arGU shN shD stF stN stD rest).set 51 (.inl (.int, aI 24 xx)) = (MC s0 s1 handN handD gT gF alE alS alM fiF fiN fiD epN epD goH goN goD plS plP plM plA plBN plBD plLN plLD plR veW veF veP vsF vsN vsD juM juP juTN juTD juO scN scD noF noN noD neF neN neD arP arB arM arU arF xx arL arT arA arS leN leD grN grD arH arLU arGU shN shD stF stN stD rest) := by
  unfold MC encC
  rfl
theorem kC_arR {xx : Int → Int} (h : aI 24 arR = aI 24 xx) : (MC s0 s1 handN handD gT gF alE alS alM fiF fiN fiD epN epD goH goN goD plS plP plM plA plBN plBD plLN plLD plR veW veF veP vsF vsN vsD juM juP juTN juTD juO scN scD noF noN noD neF neN neD arP arB arM arU arF arR arL arT arA arS leN leD grN grD arH arLU arGU shN shD stF stN stD rest) = (MC s0 s1 handN handD gT gF alE alS alM fiF fiN fiD epN epD goH goN goD plS plP plM plA plBN plBD plLN plLD plR veW veF veP vsF vsN vsD juM juP juTN juTD juO scN scD noF noN noD neF neN neD arP arB arM arU arF xx arL arT arA arS leN leD grN grD arH arLU arGU shN shD stF stN stD rest) := by
  unfold MC encC
  rw [h]
theorem sC_arL {xx : Int → Int} : (MC s0 s1 handN handD gT gF alE alS alM fiF fiN fiD epN epD goH goN goD plS plP plM plA plBN plBD plLN plLD plR veW veF veP vsF vsN vsD juM juP juTN juTD juO scN scD noF noN noD neF neN neD arP arB arM arU arF arR arL arT arA arS leN leD grN grD arH arLU arGU shN shD stF stN stD rest).set 52 (.inl (.int, aI 24 xx)) = (MC s0 s1 handN handD gT gF alE alS alM fiF fiN fiD epN epD goH goN goD plS plP plM plA plBN plBD plLN plLD plR veW veF veP vsF vsN vsD juM juP juTN juTD juO scN scD noF noN noD neF neN neD arP arB arM arU arF arR xx arT arA arS leN leD grN grD arH arLU arGU shN shD stF stN stD rest) := by
  unfold MC encC
  rfl
theorem kC_arL {xx : Int → Int} (h : aI 24 arL = aI 24 xx) : (MC s0 s1 handN handD gT gF alE alS alM fiF fiN fiD epN epD goH goN goD plS plP plM plA plBN plBD plLN plLD plR veW veF veP vsF vsN vsD juM juP juTN juTD juO scN scD noF noN noD neF neN neD arP arB arM arU arF arR arL arT arA arS leN leD grN grD arH arLU arGU shN shD stF stN stD rest) = (MC s0 s1 handN handD gT gF alE alS alM fiF fiN fiD epN epD goH goN goD plS plP plM plA plBN plBD plLN plLD plR veW veF veP vsF vsN vsD juM juP juTN juTD juO scN scD noF noN noD neF neN neD arP arB arM arU arF arR xx arT arA arS leN leD grN grD arH arLU arGU shN shD stF stN stD rest) := by
  unfold MC encC
  rw [h]
theorem sC_arT {xx : Int → Int} : (MC s0 s1 handN handD gT gF alE alS alM fiF fiN fiD epN epD goH goN goD plS plP plM plA plBN plBD plLN plLD plR veW veF veP vsF vsN vsD juM juP juTN juTD juO scN scD noF noN noD neF neN neD arP arB arM arU arF arR arL arT arA arS leN leD grN grD arH arLU arGU shN shD stF stN stD rest).set 53 (.inl (.long, aL 24 xx)) = (MC s0 s1 handN handD gT gF alE alS alM fiF fiN fiD epN epD goH goN goD plS plP plM plA plBN plBD plLN plLD plR veW veF veP vsF vsN vsD juM juP juTN juTD juO scN scD noF noN noD neF neN neD arP arB arM arU arF arR arL xx arA arS leN leD grN grD arH arLU arGU shN shD stF stN stD rest) := by
  unfold MC encC
  rfl
theorem kC_arT {xx : Int → Int} (h : aL 24 arT = aL 24 xx) : (MC s0 s1 handN handD gT gF alE alS alM fiF fiN fiD epN epD goH goN goD plS plP plM plA plBN plBD plLN plLD plR veW veF veP vsF vsN vsD juM juP juTN juTD juO scN scD noF noN noD neF neN neD arP arB arM arU arF arR arL arT arA arS leN leD grN grD arH arLU arGU shN shD stF stN stD rest) = (MC s0 s1 handN handD gT gF alE alS alM fiF fiN fiD epN epD goH goN goD plS plP plM plA plBN plBD plLN plLD plR veW veF veP vsF vsN vsD juM juP juTN juTD juO scN scD noF noN noD neF neN neD arP arB arM arU arF arR arL xx arA arS leN leD grN grD arH arLU arGU shN shD stF stN stD rest) := by
  unfold MC encC
  rw [h]
theorem sC_arA {xx : Int → Int} : (MC s0 s1 handN handD gT gF alE alS alM fiF fiN fiD epN epD goH goN goD plS plP plM plA plBN plBD plLN plLD plR veW veF veP vsF vsN vsD juM juP juTN juTD juO scN scD noF noN noD neF neN neD arP arB arM arU arF arR arL arT arA arS leN leD grN grD arH arLU arGU shN shD stF stN stD rest).set 54 (.inl (.int, aI 12 xx)) = (MC s0 s1 handN handD gT gF alE alS alM fiF fiN fiD epN epD goH goN goD plS plP plM plA plBN plBD plLN plLD plR veW veF veP vsF vsN vsD juM juP juTN juTD juO scN scD noF noN noD neF neN neD arP arB arM arU arF arR arL arT xx arS leN leD grN grD arH arLU arGU shN shD stF stN stD rest) := by
  unfold MC encC
  rfl
theorem kC_arA {xx : Int → Int} (h : aI 12 arA = aI 12 xx) : (MC s0 s1 handN handD gT gF alE alS alM fiF fiN fiD epN epD goH goN goD plS plP plM plA plBN plBD plLN plLD plR veW veF veP vsF vsN vsD juM juP juTN juTD juO scN scD noF noN noD neF neN neD arP arB arM arU arF arR arL arT arA arS leN leD grN grD arH arLU arGU shN shD stF stN stD rest) = (MC s0 s1 handN handD gT gF alE alS alM fiF fiN fiD epN epD goH goN goD plS plP plM plA plBN plBD plLN plLD plR veW veF veP vsF vsN vsD juM juP juTN juTD juO scN scD noF noN noD neF neN neD arP arB arM arU arF arR arL arT xx arS leN leD grN grD arH arLU arGU shN shD stF stN stD rest) := by
  unfold MC encC
  rw [h]
theorem sC_arS {xx : Int → Int} : (MC s0 s1 handN handD gT gF alE alS alM fiF fiN fiD epN epD goH goN goD plS plP plM plA plBN plBD plLN plLD plR veW veF veP vsF vsN vsD juM juP juTN juTD juO scN scD noF noN noD neF neN neD arP arB arM arU arF arR arL arT arA arS leN leD grN grD arH arLU arGU shN shD stF stN stD rest).set 55 (.inl (.int, aI 12 xx)) = (MC s0 s1 handN handD gT gF alE alS alM fiF fiN fiD epN epD goH goN goD plS plP plM plA plBN plBD plLN plLD plR veW veF veP vsF vsN vsD juM juP juTN juTD juO scN scD noF noN noD neF neN neD arP arB arM arU arF arR arL arT arA xx leN leD grN grD arH arLU arGU shN shD stF stN stD rest) := by
  unfold MC encC
  rfl
theorem kC_arS {xx : Int → Int} (h : aI 12 arS = aI 12 xx) : (MC s0 s1 handN handD gT gF alE alS alM fiF fiN fiD epN epD goH goN goD plS plP plM plA plBN plBD plLN plLD plR veW veF veP vsF vsN vsD juM juP juTN juTD juO scN scD noF noN noD neF neN neD arP arB arM arU arF arR arL arT arA arS leN leD grN grD arH arLU arGU shN shD stF stN stD rest) = (MC s0 s1 handN handD gT gF alE alS alM fiF fiN fiD epN epD goH goN goD plS plP plM plA plBN plBD plLN plLD plR veW veF veP vsF vsN vsD juM juP juTN juTD juO scN scD noF noN noD neF neN neD arP arB arM arU arF arR arL arT arA xx leN leD grN grD arH arLU arGU shN shD stF stN stD rest) := by
  unfold MC encC
  rw [h]
theorem sC_leN {xx : Int → Int} : (MC s0 s1 handN handD gT gF alE alS alM fiF fiN fiD epN epD goH goN goD plS plP plM plA plBN plBD plLN plLD plR veW veF veP vsF vsN vsD juM juP juTN juTD juO scN scD noF noN noD neF neN neD arP arB arM arU arF arR arL arT arA arS leN leD grN grD arH arLU arGU shN shD stF stN stD rest).set 57 (.inl (.long, aL 12 xx)) = (MC s0 s1 handN handD gT gF alE alS alM fiF fiN fiD epN epD goH goN goD plS plP plM plA plBN plBD plLN plLD plR veW veF veP vsF vsN vsD juM juP juTN juTD juO scN scD noF noN noD neF neN neD arP arB arM arU arF arR arL arT arA arS xx leD grN grD arH arLU arGU shN shD stF stN stD rest) := by
  unfold MC encC
  rfl
theorem kC_leN {xx : Int → Int} (h : aL 12 leN = aL 12 xx) : (MC s0 s1 handN handD gT gF alE alS alM fiF fiN fiD epN epD goH goN goD plS plP plM plA plBN plBD plLN plLD plR veW veF veP vsF vsN vsD juM juP juTN juTD juO scN scD noF noN noD neF neN neD arP arB arM arU arF arR arL arT arA arS leN leD grN grD arH arLU arGU shN shD stF stN stD rest) = (MC s0 s1 handN handD gT gF alE alS alM fiF fiN fiD epN epD goH goN goD plS plP plM plA plBN plBD plLN plLD plR veW veF veP vsF vsN vsD juM juP juTN juTD juO scN scD noF noN noD neF neN neD arP arB arM arU arF arR arL arT arA arS xx leD grN grD arH arLU arGU shN shD stF stN stD rest) := by
  unfold MC encC
  rw [h]
theorem sC_leD {xx : Int → Int} : (MC s0 s1 handN handD gT gF alE alS alM fiF fiN fiD epN epD goH goN goD plS plP plM plA plBN plBD plLN plLD plR veW veF veP vsF vsN vsD juM juP juTN juTD juO scN scD noF noN noD neF neN neD arP arB arM arU arF arR arL arT arA arS leN leD grN grD arH arLU arGU shN shD stF stN stD rest).set 58 (.inl (.long, aL 12 xx)) = (MC s0 s1 handN handD gT gF alE alS alM fiF fiN fiD epN epD goH goN goD plS plP plM plA plBN plBD plLN plLD plR veW veF veP vsF vsN vsD juM juP juTN juTD juO scN scD noF noN noD neF neN neD arP arB arM arU arF arR arL arT arA arS leN xx grN grD arH arLU arGU shN shD stF stN stD rest) := by
  unfold MC encC
  rfl
theorem kC_leD {xx : Int → Int} (h : aL 12 leD = aL 12 xx) : (MC s0 s1 handN handD gT gF alE alS alM fiF fiN fiD epN epD goH goN goD plS plP plM plA plBN plBD plLN plLD plR veW veF veP vsF vsN vsD juM juP juTN juTD juO scN scD noF noN noD neF neN neD arP arB arM arU arF arR arL arT arA arS leN leD grN grD arH arLU arGU shN shD stF stN stD rest) = (MC s0 s1 handN handD gT gF alE alS alM fiF fiN fiD epN epD goH goN goD plS plP plM plA plBN plBD plLN plLD plR veW veF veP vsF vsN vsD juM juP juTN juTD juO scN scD noF noN noD neF neN neD arP arB arM arU arF arR arL arT arA arS leN xx grN grD arH arLU arGU shN shD stF stN stD rest) := by
  unfold MC encC
  rw [h]
theorem sC_grN {xx : Int → Int} : (MC s0 s1 handN handD gT gF alE alS alM fiF fiN fiD epN epD goH goN goD plS plP plM plA plBN plBD plLN plLD plR veW veF veP vsF vsN vsD juM juP juTN juTD juO scN scD noF noN noD neF neN neD arP arB arM arU arF arR arL arT arA arS leN leD grN grD arH arLU arGU shN shD stF stN stD rest).set 60 (.inl (.long, aL 12 xx)) = (MC s0 s1 handN handD gT gF alE alS alM fiF fiN fiD epN epD goH goN goD plS plP plM plA plBN plBD plLN plLD plR veW veF veP vsF vsN vsD juM juP juTN juTD juO scN scD noF noN noD neF neN neD arP arB arM arU arF arR arL arT arA arS leN leD xx grD arH arLU arGU shN shD stF stN stD rest) := by
  unfold MC encC
  rfl
theorem kC_grN {xx : Int → Int} (h : aL 12 grN = aL 12 xx) : (MC s0 s1 handN handD gT gF alE alS alM fiF fiN fiD epN epD goH goN goD plS plP plM plA plBN plBD plLN plLD plR veW veF veP vsF vsN vsD juM juP juTN juTD juO scN scD noF noN noD neF neN neD arP arB arM arU arF arR arL arT arA arS leN leD grN grD arH arLU arGU shN shD stF stN stD rest) = (MC s0 s1 handN handD gT gF alE alS alM fiF fiN fiD epN epD goH goN goD plS plP plM plA plBN plBD plLN plLD plR veW veF veP vsF vsN vsD juM juP juTN juTD juO scN scD noF noN noD neF neN neD arP arB arM arU arF arR arL arT arA arS leN leD xx grD arH arLU arGU shN shD stF stN stD rest) := by
  unfold MC encC
  rw [h]
theorem sC_grD {xx : Int → Int} : (MC s0 s1 handN handD gT gF alE alS alM fiF fiN fiD epN epD goH goN goD plS plP plM plA plBN plBD plLN plLD plR veW veF veP vsF vsN vsD juM juP juTN juTD juO scN scD noF noN noD neF neN neD arP arB arM arU arF arR arL arT arA arS leN leD grN grD arH arLU arGU shN shD stF stN stD rest).set 61 (.inl (.long, aL 12 xx)) = (MC s0 s1 handN handD gT gF alE alS alM fiF fiN fiD epN epD goH goN goD plS plP plM plA plBN plBD plLN plLD plR veW veF veP vsF vsN vsD juM juP juTN juTD juO scN scD noF noN noD neF neN neD arP arB arM arU arF arR arL arT arA arS leN leD grN xx arH arLU arGU shN shD stF stN stD rest) := by
  unfold MC encC
  rfl
theorem kC_grD {xx : Int → Int} (h : aL 12 grD = aL 12 xx) : (MC s0 s1 handN handD gT gF alE alS alM fiF fiN fiD epN epD goH goN goD plS plP plM plA plBN plBD plLN plLD plR veW veF veP vsF vsN vsD juM juP juTN juTD juO scN scD noF noN noD neF neN neD arP arB arM arU arF arR arL arT arA arS leN leD grN grD arH arLU arGU shN shD stF stN stD rest) = (MC s0 s1 handN handD gT gF alE alS alM fiF fiN fiD epN epD goH goN goD plS plP plM plA plBN plBD plLN plLD plR veW veF veP vsF vsN vsD juM juP juTN juTD juO scN scD noF noN noD neF neN neD arP arB arM arU arF arR arL arT arA arS leN leD grN xx arH arLU arGU shN shD stF stN stD rest) := by
  unfold MC encC
  rw [h]
theorem sC_arH {xx : Int → Prop} : (MC s0 s1 handN handD gT gF alE alS alM fiF fiN fiD epN epD goH goN goD plS plP plM plA plBN plBD plLN plLD plR veW veF veP vsF vsN vsD juM juP juTN juTD juO scN scD noF noN noD neF neN neD arP arB arM arU arF arR arL arT arA arS leN leD grN grD arH arLU arGU shN shD stF stN stD rest).set 62 (.inl (.boolean, aZ 12 xx)) = (MC s0 s1 handN handD gT gF alE alS alM fiF fiN fiD epN epD goH goN goD plS plP plM plA plBN plBD plLN plLD plR veW veF veP vsF vsN vsD juM juP juTN juTD juO scN scD noF noN noD neF neN neD arP arB arM arU arF arR arL arT arA arS leN leD grN grD xx arLU arGU shN shD stF stN stD rest) := by
  unfold MC encC
  rfl
theorem kC_arH {xx : Int → Prop} (h : aZ 12 arH = aZ 12 xx) : (MC s0 s1 handN handD gT gF alE alS alM fiF fiN fiD epN epD goH goN goD plS plP plM plA plBN plBD plLN plLD plR veW veF veP vsF vsN vsD juM juP juTN juTD juO scN scD noF noN noD neF neN neD arP arB arM arU arF arR arL arT arA arS leN leD grN grD arH arLU arGU shN shD stF stN stD rest) = (MC s0 s1 handN handD gT gF alE alS alM fiF fiN fiD epN epD goH goN goD plS plP plM plA plBN plBD plLN plLD plR veW veF veP vsF vsN vsD juM juP juTN juTD juO scN scD noF noN noD neF neN neD arP arB arM arU arF arR arL arT arA arS leN leD grN grD xx arLU arGU shN shD stF stN stD rest) := by
  unfold MC encC
  rw [h]
theorem sC_arLU {xx : Int → Int} : (MC s0 s1 handN handD gT gF alE alS alM fiF fiN fiD epN epD goH goN goD plS plP plM plA plBN plBD plLN plLD plR veW veF veP vsF vsN vsD juM juP juTN juTD juO scN scD noF noN noD neF neN neD arP arB arM arU arF arR arL arT arA arS leN leD grN grD arH arLU arGU shN shD stF stN stD rest).set 63 (.inl (.long, aL 12 xx)) = (MC s0 s1 handN handD gT gF alE alS alM fiF fiN fiD epN epD goH goN goD plS plP plM plA plBN plBD plLN plLD plR veW veF veP vsF vsN vsD juM juP juTN juTD juO scN scD noF noN noD neF neN neD arP arB arM arU arF arR arL arT arA arS leN leD grN grD arH xx arGU shN shD stF stN stD rest) := by
  unfold MC encC
  rfl
theorem kC_arLU {xx : Int → Int} (h : aL 12 arLU = aL 12 xx) : (MC s0 s1 handN handD gT gF alE alS alM fiF fiN fiD epN epD goH goN goD plS plP plM plA plBN plBD plLN plLD plR veW veF veP vsF vsN vsD juM juP juTN juTD juO scN scD noF noN noD neF neN neD arP arB arM arU arF arR arL arT arA arS leN leD grN grD arH arLU arGU shN shD stF stN stD rest) = (MC s0 s1 handN handD gT gF alE alS alM fiF fiN fiD epN epD goH goN goD plS plP plM plA plBN plBD plLN plLD plR veW veF veP vsF vsN vsD juM juP juTN juTD juO scN scD noF noN noD neF neN neD arP arB arM arU arF arR arL arT arA arS leN leD grN grD arH xx arGU shN shD stF stN stD rest) := by
  unfold MC encC
  rw [h]
theorem sC_arGU {xx : Int → Int} : (MC s0 s1 handN handD gT gF alE alS alM fiF fiN fiD epN epD goH goN goD plS plP plM plA plBN plBD plLN plLD plR veW veF veP vsF vsN vsD juM juP juTN juTD juO scN scD noF noN noD neF neN neD arP arB arM arU arF arR arL arT arA arS leN leD grN grD arH arLU arGU shN shD stF stN stD rest).set 64 (.inl (.long, aL 12 xx)) = (MC s0 s1 handN handD gT gF alE alS alM fiF fiN fiD epN epD goH goN goD plS plP plM plA plBN plBD plLN plLD plR veW veF veP vsF vsN vsD juM juP juTN juTD juO scN scD noF noN noD neF neN neD arP arB arM arU arF arR arL arT arA arS leN leD grN grD arH arLU xx shN shD stF stN stD rest) := by
  unfold MC encC
  rfl
theorem kC_arGU {xx : Int → Int} (h : aL 12 arGU = aL 12 xx) : (MC s0 s1 handN handD gT gF alE alS alM fiF fiN fiD epN epD goH goN goD plS plP plM plA plBN plBD plLN plLD plR veW veF veP vsF vsN vsD juM juP juTN juTD juO scN scD noF noN noD neF neN neD arP arB arM arU arF arR arL arT arA arS leN leD grN grD arH arLU arGU shN shD stF stN stD rest) = (MC s0 s1 handN handD gT gF alE alS alM fiF fiN fiD epN epD goH goN goD plS plP plM plA plBN plBD plLN plLD plR veW veF veP vsF vsN vsD juM juP juTN juTD juO scN scD noF noN noD neF neN neD arP arB arM arU arF arR arL arT arA arS leN leD grN grD arH arLU xx shN shD stF stN stD rest) := by
  unfold MC encC
  rw [h]
theorem sC_shN {xx : Int → Int} : (MC s0 s1 handN handD gT gF alE alS alM fiF fiN fiD epN epD goH goN goD plS plP plM plA plBN plBD plLN plLD plR veW veF veP vsF vsN vsD juM juP juTN juTD juO scN scD noF noN noD neF neN neD arP arB arM arU arF arR arL arT arA arS leN leD grN grD arH arLU arGU shN shD stF stN stD rest).set 66 (.inl (.long, aL 1 xx)) = (MC s0 s1 handN handD gT gF alE alS alM fiF fiN fiD epN epD goH goN goD plS plP plM plA plBN plBD plLN plLD plR veW veF veP vsF vsN vsD juM juP juTN juTD juO scN scD noF noN noD neF neN neD arP arB arM arU arF arR arL arT arA arS leN leD grN grD arH arLU arGU xx shD stF stN stD rest) := by
  unfold MC encC
  rfl
theorem kC_shN {xx : Int → Int} (h : aL 1 shN = aL 1 xx) : (MC s0 s1 handN handD gT gF alE alS alM fiF fiN fiD epN epD goH goN goD plS plP plM plA plBN plBD plLN plLD plR veW veF veP vsF vsN vsD juM juP juTN juTD juO scN scD noF noN noD neF neN neD arP arB arM arU arF arR arL arT arA arS leN leD grN grD arH arLU arGU shN shD stF stN stD rest) = (MC s0 s1 handN handD gT gF alE alS alM fiF fiN fiD epN epD goH goN goD plS plP plM plA plBN plBD plLN plLD plR veW veF veP vsF vsN vsD juM juP juTN juTD juO scN scD noF noN noD neF neN neD arP arB arM arU arF arR arL arT arA arS leN leD grN grD arH arLU arGU xx shD stF stN stD rest) := by
  unfold MC encC
  rw [h]
theorem sC_shD {xx : Int → Int} : (MC s0 s1 handN handD gT gF alE alS alM fiF fiN fiD epN epD goH goN goD plS plP plM plA plBN plBD plLN plLD plR veW veF veP vsF vsN vsD juM juP juTN juTD juO scN scD noF noN noD neF neN neD arP arB arM arU arF arR arL arT arA arS leN leD grN grD arH arLU arGU shN shD stF stN stD rest).set 67 (.inl (.long, aL 1 xx)) = (MC s0 s1 handN handD gT gF alE alS alM fiF fiN fiD epN epD goH goN goD plS plP plM plA plBN plBD plLN plLD plR veW veF veP vsF vsN vsD juM juP juTN juTD juO scN scD noF noN noD neF neN neD arP arB arM arU arF arR arL arT arA arS leN leD grN grD arH arLU arGU shN xx stF stN stD rest) := by
  unfold MC encC
  rfl
theorem kC_shD {xx : Int → Int} (h : aL 1 shD = aL 1 xx) : (MC s0 s1 handN handD gT gF alE alS alM fiF fiN fiD epN epD goH goN goD plS plP plM plA plBN plBD plLN plLD plR veW veF veP vsF vsN vsD juM juP juTN juTD juO scN scD noF noN noD neF neN neD arP arB arM arU arF arR arL arT arA arS leN leD grN grD arH arLU arGU shN shD stF stN stD rest) = (MC s0 s1 handN handD gT gF alE alS alM fiF fiN fiD epN epD goH goN goD plS plP plM plA plBN plBD plLN plLD plR veW veF veP vsF vsN vsD juM juP juTN juTD juO scN scD noF noN noD neF neN neD arP arB arM arU arF arR arL arT arA arS leN leD grN grD arH arLU arGU shN xx stF stN stD rest) := by
  unfold MC encC
  rw [h]
theorem gF_hand : FI (MC s0 s1 handN handD gT gF alE alS alM fiF fiN fiD epN epD goH goN goD plS plP plM plA plBN plBD plLN plLD plR veW veF veP vsF vsN vsD juM juP juTN juTD juO scN scD noF noN noD neF neN neD arP arB arM arU arF arR arL arT arA arS leN leD grN grD arH arLU arGU shN shD stF stN stD rest) 3 4 5 2 handN handD := FI.of gC_3 gC_4 gC_5 (by decide) (by decide) (by decide) (by decide)
theorem sF_hand {xx yy : Int → Int} : fsI (MC s0 s1 handN handD gT gF alE alS alM fiF fiN fiD epN epD goH goN goD plS plP plM plA plBN plBD plLN plLD plR veW veF veP vsF vsN vsD juM juP juTN juTD juO scN scD noF noN noD neF neN neD arP arB arM arU arF arR arL arT arA arS leN leD grN grD arH arLU arGU shN shD stF stN stD rest) 4 5 2 xx yy = (MC s0 s1 xx yy gT gF alE alS alM fiF fiN fiD epN epD goH goN goD plS plP plM plA plBN plBD plLN plLD plR veW veF veP vsF vsN vsD juM juP juTN juTD juO scN scD noF noN noD neF neN neD arP arB arM arU arF arR arL arT arA arS leN leD grN grD arH arLU arGU shN shD stF stN stD rest) := by
  unfold fsI
  rw [sC_handN, sC_handD]
theorem gF_fi : FI (MC s0 s1 handN handD gT gF alE alS alM fiF fiN fiD epN epD goH goN goD plS plP plM plA plBN plBD plLN plLD plR veW veF veP vsF vsN vsD juM juP juTN juTD juO scN scD noF noN noD neF neN neD arP arB arM arU arF arR arL arT arA arS leN leD grN grD arH arLU arGU shN shD stF stN stD rest) 9 10 11 8 fiN fiD := FI.of gC_9 gC_10 gC_11 (by decide) (by decide) (by decide) (by decide)
theorem sF_fi {xx yy : Int → Int} : fsI (MC s0 s1 handN handD gT gF alE alS alM fiF fiN fiD epN epD goH goN goD plS plP plM plA plBN plBD plLN plLD plR veW veF veP vsF vsN vsD juM juP juTN juTD juO scN scD noF noN noD neF neN neD arP arB arM arU arF arR arL arT arA arS leN leD grN grD arH arLU arGU shN shD stF stN stD rest) 10 11 8 xx yy = (MC s0 s1 handN handD gT gF alE alS alM fiF xx yy epN epD goH goN goD plS plP plM plA plBN plBD plLN plLD plR veW veF veP vsF vsN vsD juM juP juTN juTD juO scN scD noF noN noD neF neN neD arP arB arM arU arF arR arL arT arA arS leN leD grN grD arH arLU arGU shN shD stF stN stD rest) := by
  unfold fsI
  rw [sC_fiN, sC_fiD]
theorem gF_ep : FI (MC s0 s1 handN handD gT gF alE alS alM fiF fiN fiD epN epD goH goN goD plS plP plM plA plBN plBD plLN plLD plR veW veF veP vsF vsN vsD juM juP juTN juTD juO scN scD noF noN noD neF neN neD arP arB arM arU arF arR arL arT arA arS leN leD grN grD arH arLU arGU shN shD stF stN stD rest) 12 13 14 1 epN epD := FI.of gC_12 gC_13 gC_14 (by decide) (by decide) (by decide) (by decide)
theorem sF_ep {xx yy : Int → Int} : fsI (MC s0 s1 handN handD gT gF alE alS alM fiF fiN fiD epN epD goH goN goD plS plP plM plA plBN plBD plLN plLD plR veW veF veP vsF vsN vsD juM juP juTN juTD juO scN scD noF noN noD neF neN neD arP arB arM arU arF arR arL arT arA arS leN leD grN grD arH arLU arGU shN shD stF stN stD rest) 13 14 1 xx yy = (MC s0 s1 handN handD gT gF alE alS alM fiF fiN fiD xx yy goH goN goD plS plP plM plA plBN plBD plLN plLD plR veW veF veP vsF vsN vsD juM juP juTN juTD juO scN scD noF noN noD neF neN neD arP arB arM arU arF arR arL arT arA arS leN leD grN grD arH arLU arGU shN shD stF stN stD rest) := by
  unfold fsI
  rw [sC_epN, sC_epD]
theorem gF_go : FI (MC s0 s1 handN handD gT gF alE alS alM fiF fiN fiD epN epD goH goN goD plS plP plM plA plBN plBD plLN plLD plR veW veF veP vsF vsN vsD juM juP juTN juTD juO scN scD noF noN noD neF neN neD arP arB arM arU arF arR arL arT arA arS leN leD grN grD arH arLU arGU shN shD stF stN stD rest) 16 17 18 8 goN goD := FI.of gC_16 gC_17 gC_18 (by decide) (by decide) (by decide) (by decide)
theorem sF_go {xx yy : Int → Int} : fsI (MC s0 s1 handN handD gT gF alE alS alM fiF fiN fiD epN epD goH goN goD plS plP plM plA plBN plBD plLN plLD plR veW veF veP vsF vsN vsD juM juP juTN juTD juO scN scD noF noN noD neF neN neD arP arB arM arU arF arR arL arT arA arS leN leD grN grD arH arLU arGU shN shD stF stN stD rest) 17 18 8 xx yy = (MC s0 s1 handN handD gT gF alE alS alM fiF fiN fiD epN epD goH xx yy plS plP plM plA plBN plBD plLN plLD plR veW veF veP vsF vsN vsD juM juP juTN juTD juO scN scD noF noN noD neF neN neD arP arB arM arU arF arR arL arT arA arS leN leD grN grD arH arLU arGU shN shD stF stN stD rest) := by
  unfold fsI
  rw [sC_goN, sC_goD]
theorem gF_plB : FI (MC s0 s1 handN handD gT gF alE alS alM fiF fiN fiD epN epD goH goN goD plS plP plM plA plBN plBD plLN plLD plR veW veF veP vsF vsN vsD juM juP juTN juTD juO scN scD noF noN noD neF neN neD arP arB arM arU arF arR arL arT arA arS leN leD grN grD arH arLU arGU shN shD stF stN stD rest) 21 22 23 12 plBN plBD := FI.of gC_21 gC_22 gC_23 (by decide) (by decide) (by decide) (by decide)
theorem sF_plB {xx yy : Int → Int} : fsI (MC s0 s1 handN handD gT gF alE alS alM fiF fiN fiD epN epD goH goN goD plS plP plM plA plBN plBD plLN plLD plR veW veF veP vsF vsN vsD juM juP juTN juTD juO scN scD noF noN noD neF neN neD arP arB arM arU arF arR arL arT arA arS leN leD grN grD arH arLU arGU shN shD stF stN stD rest) 22 23 12 xx yy = (MC s0 s1 handN handD gT gF alE alS alM fiF fiN fiD epN epD goH goN goD plS plP plM plA xx yy plLN plLD plR veW veF veP vsF vsN vsD juM juP juTN juTD juO scN scD noF noN noD neF neN neD arP arB arM arU arF arR arL arT arA arS leN leD grN grD arH arLU arGU shN shD stF stN stD rest) := by
  unfold fsI
  rw [sC_plBN, sC_plBD]
theorem gF_plL : FI (MC s0 s1 handN handD gT gF alE alS alM fiF fiN fiD epN epD goH goN goD plS plP plM plA plBN plBD plLN plLD plR veW veF veP vsF vsN vsD juM juP juTN juTD juO scN scD noF noN noD neF neN neD arP arB arM arU arF arR arL arT arA arS leN leD grN grD arH arLU arGU shN shD stF stN stD rest) 24 25 26 12 plLN plLD := FI.of gC_24 gC_25 gC_26 (by decide) (by decide) (by decide) (by decide)
theorem sF_plL {xx yy : Int → Int} : fsI (MC s0 s1 handN handD gT gF alE alS alM fiF fiN fiD epN epD goH goN goD plS plP plM plA plBN plBD plLN plLD plR veW veF veP vsF vsN vsD juM juP juTN juTD juO scN scD noF noN noD neF neN neD arP arB arM arU arF arR arL arT arA arS leN leD grN grD arH arLU arGU shN shD stF stN stD rest) 25 26 12 xx yy = (MC s0 s1 handN handD gT gF alE alS alM fiF fiN fiD epN epD goH goN goD plS plP plM plA plBN plBD xx yy plR veW veF veP vsF vsN vsD juM juP juTN juTD juO scN scD noF noN noD neF neN neD arP arB arM arU arF arR arL arT arA arS leN leD grN grD arH arLU arGU shN shD stF stN stD rest) := by
  unfold fsI
  rw [sC_plLN, sC_plLD]
theorem gF_vs : FI (MC s0 s1 handN handD gT gF alE alS alM fiF fiN fiD epN epD goH goN goD plS plP plM plA plBN plBD plLN plLD plR veW veF veP vsF vsN vsD juM juP juTN juTD juO scN scD noF noN noD neF neN neD arP arB arM arU arF arR arL arT arA arS leN leD grN grD arH arLU arGU shN shD stF stN stD rest) 30 31 32 8 vsN vsD := FI.of gC_30 gC_31 gC_32 (by decide) (by decide) (by decide) (by decide)
theorem sF_vs {xx yy : Int → Int} : fsI (MC s0 s1 handN handD gT gF alE alS alM fiF fiN fiD epN epD goH goN goD plS plP plM plA plBN plBD plLN plLD plR veW veF veP vsF vsN vsD juM juP juTN juTD juO scN scD noF noN noD neF neN neD arP arB arM arU arF arR arL arT arA arS leN leD grN grD arH arLU arGU shN shD stF stN stD rest) 31 32 8 xx yy = (MC s0 s1 handN handD gT gF alE alS alM fiF fiN fiD epN epD goH goN goD plS plP plM plA plBN plBD plLN plLD plR veW veF veP vsF xx yy juM juP juTN juTD juO scN scD noF noN noD neF neN neD arP arB arM arU arF arR arL arT arA arS leN leD grN grD arH arLU arGU shN shD stF stN stD rest) := by
  unfold fsI
  rw [sC_vsN, sC_vsD]
theorem gF_juT : FI (MC s0 s1 handN handD gT gF alE alS alM fiF fiN fiD epN epD goH goN goD plS plP plM plA plBN plBD plLN plLD plR veW veF veP vsF vsN vsD juM juP juTN juTD juO scN scD noF noN noD neF neN neD arP arB arM arU arF arR arL arT arA arS leN leD grN grD arH arLU arGU shN shD stF stN stD rest) 34 35 36 24 juTN juTD := FI.of gC_34 gC_35 gC_36 (by decide) (by decide) (by decide) (by decide)
theorem sF_juT {xx yy : Int → Int} : fsI (MC s0 s1 handN handD gT gF alE alS alM fiF fiN fiD epN epD goH goN goD plS plP plM plA plBN plBD plLN plLD plR veW veF veP vsF vsN vsD juM juP juTN juTD juO scN scD noF noN noD neF neN neD arP arB arM arU arF arR arL arT arA arS leN leD grN grD arH arLU arGU shN shD stF stN stD rest) 35 36 24 xx yy = (MC s0 s1 handN handD gT gF alE alS alM fiF fiN fiD epN epD goH goN goD plS plP plM plA plBN plBD plLN plLD plR veW veF veP vsF vsN vsD juM juP xx yy juO scN scD noF noN noD neF neN neD arP arB arM arU arF arR arL arT arA arS leN leD grN grD arH arLU arGU shN shD stF stN stD rest) := by
  unfold fsI
  rw [sC_juTN, sC_juTD]
theorem gF_sc : FI (MC s0 s1 handN handD gT gF alE alS alM fiF fiN fiD epN epD goH goN goD plS plP plM plA plBN plBD plLN plLD plR veW veF veP vsF vsN vsD juM juP juTN juTD juO scN scD noF noN noD neF neN neD arP arB arM arU arF arR arL arT arA arS leN leD grN grD arH arLU arGU shN shD stF stN stD rest) 38 39 40 1 scN scD := FI.of gC_38 gC_39 gC_40 (by decide) (by decide) (by decide) (by decide)
theorem sF_sc {xx yy : Int → Int} : fsI (MC s0 s1 handN handD gT gF alE alS alM fiF fiN fiD epN epD goH goN goD plS plP plM plA plBN plBD plLN plLD plR veW veF veP vsF vsN vsD juM juP juTN juTD juO scN scD noF noN noD neF neN neD arP arB arM arU arF arR arL arT arA arS leN leD grN grD arH arLU arGU shN shD stF stN stD rest) 39 40 1 xx yy = (MC s0 s1 handN handD gT gF alE alS alM fiF fiN fiD epN epD goH goN goD plS plP plM plA plBN plBD plLN plLD plR veW veF veP vsF vsN vsD juM juP juTN juTD juO xx yy noF noN noD neF neN neD arP arB arM arU arF arR arL arT arA arS leN leD grN grD arH arLU arGU shN shD stF stN stD rest) := by
  unfold fsI
  rw [sC_scN, sC_scD]
theorem gF_no : FI (MC s0 s1 handN handD gT gF alE alS alM fiF fiN fiD epN epD goH goN goD plS plP plM plA plBN plBD plLN plLD plR veW veF veP vsF vsN vsD juM juP juTN juTD juO scN scD noF noN noD neF neN neD arP arB arM arU arF arR arL arT arA arS leN leD grN grD arH arLU arGU shN shD stF stN stD rest) 42 43 44 8 noN noD := FI.of gC_42 gC_43 gC_44 (by decide) (by decide) (by decide) (by decide)
theorem sF_no {xx yy : Int → Int} : fsI (MC s0 s1 handN handD gT gF alE alS alM fiF fiN fiD epN epD goH goN goD plS plP plM plA plBN plBD plLN plLD plR veW veF veP vsF vsN vsD juM juP juTN juTD juO scN scD noF noN noD neF neN neD arP arB arM arU arF arR arL arT arA arS leN leD grN grD arH arLU arGU shN shD stF stN stD rest) 43 44 8 xx yy = (MC s0 s1 handN handD gT gF alE alS alM fiF fiN fiD epN epD goH goN goD plS plP plM plA plBN plBD plLN plLD plR veW veF veP vsF vsN vsD juM juP juTN juTD juO scN scD noF xx yy neF neN neD arP arB arM arU arF arR arL arT arA arS leN leD grN grD arH arLU arGU shN shD stF stN stD rest) := by
  unfold fsI
  rw [sC_noN, sC_noD]
theorem gF_ne : FI (MC s0 s1 handN handD gT gF alE alS alM fiF fiN fiD epN epD goH goN goD plS plP plM plA plBN plBD plLN plLD plR veW veF veP vsF vsN vsD juM juP juTN juTD juO scN scD noF noN noD neF neN neD arP arB arM arU arF arR arL arT arA arS leN leD grN grD arH arLU arGU shN shD stF stN stD rest) 46 47 48 8 neN neD := FI.of gC_46 gC_47 gC_48 (by decide) (by decide) (by decide) (by decide)
theorem sF_ne {xx yy : Int → Int} : fsI (MC s0 s1 handN handD gT gF alE alS alM fiF fiN fiD epN epD goH goN goD plS plP plM plA plBN plBD plLN plLD plR veW veF veP vsF vsN vsD juM juP juTN juTD juO scN scD noF noN noD neF neN neD arP arB arM arU arF arR arL arT arA arS leN leD grN grD arH arLU arGU shN shD stF stN stD rest) 47 48 8 xx yy = (MC s0 s1 handN handD gT gF alE alS alM fiF fiN fiD epN epD goH goN goD plS plP plM plA plBN plBD plLN plLD plR veW veF veP vsF vsN vsD juM juP juTN juTD juO scN scD noF noN noD neF xx yy arP arB arM arU arF arR arL arT arA arS leN leD grN grD arH arLU arGU shN shD stF stN stD rest) := by
  unfold fsI
  rw [sC_neN, sC_neD]
theorem gF_le : FI (MC s0 s1 handN handD gT gF alE alS alM fiF fiN fiD epN epD goH goN goD plS plP plM plA plBN plBD plLN plLD plR veW veF veP vsF vsN vsD juM juP juTN juTD juO scN scD noF noN noD neF neN neD arP arB arM arU arF arR arL arT arA arS leN leD grN grD arH arLU arGU shN shD stF stN stD rest) 56 57 58 12 leN leD := FI.of gC_56 gC_57 gC_58 (by decide) (by decide) (by decide) (by decide)
theorem sF_le {xx yy : Int → Int} : fsI (MC s0 s1 handN handD gT gF alE alS alM fiF fiN fiD epN epD goH goN goD plS plP plM plA plBN plBD plLN plLD plR veW veF veP vsF vsN vsD juM juP juTN juTD juO scN scD noF noN noD neF neN neD arP arB arM arU arF arR arL arT arA arS leN leD grN grD arH arLU arGU shN shD stF stN stD rest) 57 58 12 xx yy = (MC s0 s1 handN handD gT gF alE alS alM fiF fiN fiD epN epD goH goN goD plS plP plM plA plBN plBD plLN plLD plR veW veF veP vsF vsN vsD juM juP juTN juTD juO scN scD noF noN noD neF neN neD arP arB arM arU arF arR arL arT arA arS xx yy grN grD arH arLU arGU shN shD stF stN stD rest) := by
  unfold fsI
  rw [sC_leN, sC_leD]
theorem gF_gr : FI (MC s0 s1 handN handD gT gF alE alS alM fiF fiN fiD epN epD goH goN goD plS plP plM plA plBN plBD plLN plLD plR veW veF veP vsF vsN vsD juM juP juTN juTD juO scN scD noF noN noD neF neN neD arP arB arM arU arF arR arL arT arA arS leN leD grN grD arH arLU arGU shN shD stF stN stD rest) 59 60 61 12 grN grD := FI.of gC_59 gC_60 gC_61 (by decide) (by decide) (by decide) (by decide)
theorem sF_gr {xx yy : Int → Int} : fsI (MC s0 s1 handN handD gT gF alE alS alM fiF fiN fiD epN epD goH goN goD plS plP plM plA plBN plBD plLN plLD plR veW veF veP vsF vsN vsD juM juP juTN juTD juO scN scD noF noN noD neF neN neD arP arB arM arU arF arR arL arT arA arS leN leD grN grD arH arLU arGU shN shD stF stN stD rest) 60 61 12 xx yy = (MC s0 s1 handN handD gT gF alE alS alM fiF fiN fiD epN epD goH goN goD plS plP plM plA plBN plBD plLN plLD plR veW veF veP vsF vsN vsD juM juP juTN juTD juO scN scD noF noN noD neF neN neD arP arB arM arU arF arR arL arT arA arS leN leD xx yy arH arLU arGU shN shD stF stN stD rest) := by
  unfold fsI
  rw [sC_grN, sC_grD]
theorem gF_sh : FI (MC s0 s1 handN handD gT gF alE alS alM fiF fiN fiD epN epD goH goN goD plS plP plM plA plBN plBD plLN plLD plR veW veF veP vsF vsN vsD juM juP juTN juTD juO scN scD noF noN noD neF neN neD arP arB arM arU arF arR arL arT arA arS leN leD grN grD arH arLU arGU shN shD stF stN stD rest) 65 66 67 1 shN shD := FI.of gC_65 gC_66 gC_67 (by decide) (by decide) (by decide) (by decide)
theorem sF_sh {xx yy : Int → Int} : fsI (MC s0 s1 handN handD gT gF alE alS alM fiF fiN fiD epN epD goH goN goD plS plP plM plA plBN plBD plLN plLD plR veW veF veP vsF vsN vsD juM juP juTN juTD juO scN scD noF noN noD neF neN neD arP arB arM arU arF arR arL arT arA arS leN leD grN grD arH arLU arGU shN shD stF stN stD rest) 66 67 1 xx yy = (MC s0 s1 handN handD gT gF alE alS alM fiF fiN fiD epN epD goH goN goD plS plP plM plA plBN plBD plLN plLD plR veW veF veP vsF vsN vsD juM juP juTN juTD juO scN scD noF noN noD neF neN neD arP arB arM arU arF arR arL arT arA arS leN leD grN grD arH arLU arGU xx yy stF stN stD rest) := by
  unfold fsI
  rw [sC_shN, sC_shD]
theorem SB_len : (SB stF stN stD).length = 100 := by simp [SB]
theorem gRest (j : Nat) : (MC s0 s1 handN handD gT gF alE alS alM fiF fiN fiD epN epD goH goN goD plS plP plM plA plBN plBD plLN plLD plR veW veF veP vsF vsN vsD juM juP juTN juTD juO scN scD noF noN noD neF neN neD arP arB arM arU arF arR arL arT arA arS leN leD grN grD arH arLU arGU shN shD stF stN stD rest)[168 + j]? = rest[j]? := by
  unfold MC
  rw [List.getElem?_append_right (by rw [encC_len]; omega), encC_len, List.getElem?_append_right (by rw [SB_len]; omega), SB_len, show 168 + j - 68 - 100 = j by omega]
theorem sRest (j : Nat) (c : AC) : (MC s0 s1 handN handD gT gF alE alS alM fiF fiN fiD epN epD goH goN goD plS plP plM plA plBN plBD plLN plLD plR veW veF veP vsF vsN vsD juM juP juTN juTD juO scN scD noF noN noD neF neN neD arP arB arM arU arF arR arL arT arA arS leN leD grN grD arH arLU arGU shN shD stF stN stD rest).set (168 + j) c = (MC s0 s1 handN handD gT gF alE alS alM fiF fiN fiD epN epD goH goN goD plS plP plM plA plBN plBD plLN plLD plR veW veF veP vsF vsN vsD juM juP juTN juTD juO scN scD noF noN noD neF neN neD arP arB arM arU arF arR arL arT arA arS leN leD grN grD arH arLU arGU shN shD stF stN stD (rest.set j c)) := by
  unfold MC
  rw [List.set_append_right _ _ (by rw [encC_len]; omega), encC_len, List.set_append_right _ _ (by rw [SB_len]; omega), SB_len, show 168 + j - 68 - 100 = j by omega]
theorem aRest (x : AM) : (MC s0 s1 handN handD gT gF alE alS alM fiF fiN fiD epN epD goH goN goD plS plP plM plA plBN plBD plLN plLD plR veW veF veP vsF vsN vsD juM juP juTN juTD juO scN scD noF noN noD neF neN neD arP arB arM arU arF arR arL arT arA arS leN leD grN grD arH arLU arGU shN shD stF stN stD rest) ++ x = (MC s0 s1 handN handD gT gF alE alS alM fiF fiN fiD epN epD goH goN goD plS plP plM plA plBN plBD plLN plLD plR veW veF veP vsF vsN vsD juM juP juTN juTD juO scN scD noF noN noD neF neN neD arP arB arM arU arF arR arL arT arA arS leN leD grN grD arH arLU arGU shN shD stF stN stD (rest ++ x)) := by
  unfold MC
  rw [List.append_assoc, List.append_assoc]
theorem lRest : (MC s0 s1 handN handD gT gF alE alS alM fiF fiN fiD epN epD goH goN goD plS plP plM plA plBN plBD plLN plLD plR veW veF veP vsF vsN vsD juM juP juTN juTD juO scN scD noF noN noD neF neN neD arP arB arM arU arF arR arL arT arA arS leN leD grN grD arH arLU arGU shN shD stF stN stD rest).length = 168 + rest.length := by
  unfold MC
  rw [List.length_append, encC_len, List.length_append]
  simp [SB]
  omega
theorem gSt {j : Nat} (h : j < 100) : (MC s0 s1 handN handD gT gF alE alS alM fiF fiN fiD epN epD goH goN goD plS plP plM plA plBN plBD plLN plLD plR veW veF veP vsF vsN vsD juM juP juTN juTD juO scN scD noF noN noD neF neN neD arP arB arM arU arF arR arL arT arA arS leN leD grN grD arH arLU arGU shN shD stF stN stD rest)[68 + j]? = some (stc stF stN stD j) := by
  unfold MC
  rw [List.getElem?_append_right (by rw [encC_len]; omega), encC_len, show 68 + j - 68 = j by omega, List.getElem?_append_left (by simp [SB]; omega)]
  unfold SB
  rw [List.getElem?_map, List.getElem?_range h]
  rfl
theorem SB_set {j : Nat} (h : j < 100) {c : AC} {F1 : Int → Int → Prop} {N1 D1 : Int → Int → Int} (h1 : stc F1 N1 D1 j = c) (h2 : ∀ i, i < 100 → i ≠ j → stc F1 N1 D1 i = stc stF stN stD i) : (SB stF stN stD).set j c = SB F1 N1 D1 := by
  unfold SB
  apply List.ext_getElem?
  intro i
  by_cases hi : j = i
  · subst hi
    rw [List.getElem?_set_self (by simp; omega), List.getElem?_map, List.getElem?_range h]
    simp [h1]
  · rw [List.getElem?_set_ne hi, List.getElem?_map, List.getElem?_map]
    by_cases hn : i < 100
    · rw [List.getElem?_range hn]
      simp only [Option.map_some]
      rw [h2 i hn (fun z => hi z.symm)]
    · rw [List.getElem?_eq_none (by simp; omega)]
      rfl
theorem sSt {j : Nat} (h : j < 100) {c : AC} {F1 : Int → Int → Prop} {N1 D1 : Int → Int → Int} (h1 : stc F1 N1 D1 j = c) (h2 : ∀ i, i < 100 → i ≠ j → stc F1 N1 D1 i = stc stF stN stD i) : (MC s0 s1 handN handD gT gF alE alS alM fiF fiN fiD epN epD goH goN goD plS plP plM plA plBN plBD plLN plLD plR veW veF veP vsF vsN vsD juM juP juTN juTD juO scN scD noF noN noD neF neN neD arP arB arM arU arF arR arL arT arA arS leN leD grN grD arH arLU arGU shN shD stF stN stD rest).set (68 + j) c = (MC s0 s1 handN handD gT gF alE alS alM fiF fiN fiD epN epD goH goN goD plS plP plM plA plBN plBD plLN plLD plR veW veF veP vsF vsN vsD juM juP juTN juTD juO scN scD noF noN noD neF neN neD arP arB arM arU arF arR arL arT arA arS leN leD grN grD arH arLU arGU shN shD F1 N1 D1 rest) := by
  unfold MC
  rw [List.set_append_right _ _ (by rw [encC_len]; omega), encC_len, show 68 + j - 68 = j by omega, List.set_append_left _ _ (by simp [SB]; omega), SB_set h h1 h2]
theorem gS_State {k : Int} (hk : 0 ≤ k ∧ k < 25) : (MC s0 s1 handN handD gT gF alE alS alM fiF fiN fiD epN epD goH goN goD plS plP plM plA plBN plBD plLN plLD plR veW veF veP vsF vsN vsD juM juP juTN juTD juO scN scD noF noN noD neF neN neD arP arB arM arU arF arR arL arT arA arS leN leD grN grD arH arLU arGU shN shD stF stN stD rest)[68 + 4 * k.toNat]? = some (.inr (6, [.int (mk (stF k)), .ref (69 + 4 * k.toNat)])) := by
  rw [show 68 + 4 * k.toNat = 68 + (4 * k.toNat + 0) by omega, gSt (by omega)]
  unfold stc
  rw [show (4 * k.toNat + 0) % 4 = 0 by omega, show (4 * k.toNat + 0) / 4 = k.toNat by omega]
  simp [Int.toNat_of_nonneg hk.1]
theorem gS_Fr {k : Int} (hk : 0 ≤ k ∧ k < 25) : (MC s0 s1 handN handD gT gF alE alS alM fiF fiN fiD epN epD goH goN goD plS plP plM plA plBN plBD plLN plLD plR veW veF veP vsF vsN vsD juM juP juTN juTD juO scN scD noF noN noD neF neN neD arP arB arM arU arF arR arL arT arA arS leN leD grN grD arH arLU arGU shN shD stF stN stD rest)[69 + 4 * k.toNat]? = some (.inr (3, [.ref (70 + 4 * k.toNat), .ref (71 + 4 * k.toNat)])) := by
  rw [show 69 + 4 * k.toNat = 68 + (4 * k.toNat + 1) by omega, gSt (by omega)]
  unfold stc
  rw [show (4 * k.toNat + 1) % 4 = 1 by omega, show (4 * k.toNat + 1) / 4 = k.toNat by omega]
  simp [Int.toNat_of_nonneg hk.1]
theorem gS_N {k : Int} (hk : 0 ≤ k ∧ k < 25) : (MC s0 s1 handN handD gT gF alE alS alM fiF fiN fiD epN epD goH goN goD plS plP plM plA plBN plBD plLN plLD plR veW veF veP vsF vsN vsD juM juP juTN juTD juO scN scD noF noN noD neF neN neD arP arB arM arU arF arR arL arT arA arS leN leD grN grD arH arLU arGU shN shD stF stN stD rest)[70 + 4 * k.toNat]? = some (.inl (.long, aL 8 (stN k))) := by
  rw [show 70 + 4 * k.toNat = 68 + (4 * k.toNat + 2) by omega, gSt (by omega)]
  unfold stc
  rw [show (4 * k.toNat + 2) % 4 = 2 by omega, show (4 * k.toNat + 2) / 4 = k.toNat by omega]
  simp [Int.toNat_of_nonneg hk.1]
theorem gS_D {k : Int} (hk : 0 ≤ k ∧ k < 25) : (MC s0 s1 handN handD gT gF alE alS alM fiF fiN fiD epN epD goH goN goD plS plP plM plA plBN plBD plLN plLD plR veW veF veP vsF vsN vsD juM juP juTN juTD juO scN scD noF noN noD neF neN neD arP arB arM arU arF arR arL arT arA arS leN leD grN grD arH arLU arGU shN shD stF stN stD rest)[71 + 4 * k.toNat]? = some (.inl (.long, aL 8 (stD k))) := by
  rw [show 71 + 4 * k.toNat = 68 + (4 * k.toNat + 3) by omega, gSt (by omega)]
  unfold stc
  rw [show (4 * k.toNat + 3) % 4 = 3 by omega, show (4 * k.toNat + 3) / 4 = k.toNat by omega]
  simp [Int.toNat_of_nonneg hk.1]
theorem sS_F {k : Int} (hk : 0 ≤ k ∧ k < 25) {xx : Int → Prop} : (MC s0 s1 handN handD gT gF alE alS alM fiF fiN fiD epN epD goH goN goD plS plP plM plA plBN plBD plLN plLD plR veW veF veP vsF vsN vsD juM juP juTN juTD juO scN scD noF noN noD neF neN neD arP arB arM arU arF arR arL arT arA arS leN leD grN grD arH arLU arGU shN shD stF stN stD rest).set (68 + 4 * k.toNat) (.inr (6, [.int (mk xx), .ref (69 + 4 * k.toNat)])) = (MC s0 s1 handN handD gT gF alE alS alM fiF fiN fiD epN epD goH goN goD plS plP plM plA plBN plBD plLN plLD plR veW veF veP vsF vsN vsD juM juP juTN juTD juO scN scD noF noN noD neF neN neD arP arB arM arU arF arR arL arT arA arS leN leD grN grD arH arLU arGU shN shD (up1 stF k xx) stN stD rest) := by
  rw [show 68 + 4 * k.toNat = 68 + (4 * k.toNat + 0) by omega]
  refine sSt (by omega) ?_ (fun i hi hne => ?_)
  · unfold stc
    rw [show (4 * k.toNat + 0) % 4 = 0 by omega, show (4 * k.toNat + 0) / 4 = k.toNat by omega, Int.toNat_of_nonneg hk.1, up1_eq]
    simp
  · by_cases hq : ((i / 4 : Nat) : Int) = k
    · have h4 : ¬ i % 4 = 0 := fun z => hne (by omega)
      unfold stc
      rw [hq]
      have h5 : i % 4 = 0 ∨ i % 4 = 1 ∨ i % 4 = 2 ∨ i % 4 = 3 := by omega
      rcases h5 with h5 | h5 | h5 | h5 <;> rw [h5] at h4 ⊢ <;> first | exact absurd rfl h4 | simp
    · unfold stc
      rw [up1_ne _ _ hq]
theorem sS_N {k : Int} (hk : 0 ≤ k ∧ k < 25) {xx : Int → Int} : (MC s0 s1 handN handD gT gF alE alS alM fiF fiN fiD epN epD goH goN goD plS plP plM plA plBN plBD plLN plLD plR veW veF veP vsF vsN vsD juM juP juTN juTD juO scN scD noF noN noD neF neN neD arP arB arM arU arF arR arL arT arA arS leN leD grN grD arH arLU arGU shN shD stF stN stD rest).set (70 + 4 * k.toNat) (.inl (.long, aL 8 xx)) = (MC s0 s1 handN handD gT gF alE alS alM fiF fiN fiD epN epD goH goN goD plS plP plM plA plBN plBD plLN plLD plR veW veF veP vsF vsN vsD juM juP juTN juTD juO scN scD noF noN noD neF neN neD arP arB arM arU arF arR arL arT arA arS leN leD grN grD arH arLU arGU shN shD stF (up1 stN k xx) stD rest) := by
  rw [show 70 + 4 * k.toNat = 68 + (4 * k.toNat + 2) by omega]
  refine sSt (by omega) ?_ (fun i hi hne => ?_)
  · unfold stc
    rw [show (4 * k.toNat + 2) % 4 = 2 by omega, show (4 * k.toNat + 2) / 4 = k.toNat by omega, Int.toNat_of_nonneg hk.1, up1_eq]
    simp
  · by_cases hq : ((i / 4 : Nat) : Int) = k
    · have h4 : ¬ i % 4 = 2 := fun z => hne (by omega)
      unfold stc
      rw [hq]
      have h5 : i % 4 = 0 ∨ i % 4 = 1 ∨ i % 4 = 2 ∨ i % 4 = 3 := by omega
      rcases h5 with h5 | h5 | h5 | h5 <;> rw [h5] at h4 ⊢ <;> first | exact absurd rfl h4 | simp
    · unfold stc
      rw [up1_ne _ _ hq]
theorem sS_D {k : Int} (hk : 0 ≤ k ∧ k < 25) {xx : Int → Int} : (MC s0 s1 handN handD gT gF alE alS alM fiF fiN fiD epN epD goH goN goD plS plP plM plA plBN plBD plLN plLD plR veW veF veP vsF vsN vsD juM juP juTN juTD juO scN scD noF noN noD neF neN neD arP arB arM arU arF arR arL arT arA arS leN leD grN grD arH arLU arGU shN shD stF stN stD rest).set (71 + 4 * k.toNat) (.inl (.long, aL 8 xx)) = (MC s0 s1 handN handD gT gF alE alS alM fiF fiN fiD epN epD goH goN goD plS plP plM plA plBN plBD plLN plLD plR veW veF veP vsF vsN vsD juM juP juTN juTD juO scN scD noF noN noD neF neN neD arP arB arM arU arF arR arL arT arA arS leN leD grN grD arH arLU arGU shN shD stF stN (up1 stD k xx) rest) := by
  rw [show 71 + 4 * k.toNat = 68 + (4 * k.toNat + 3) by omega]
  refine sSt (by omega) ?_ (fun i hi hne => ?_)
  · unfold stc
    rw [show (4 * k.toNat + 3) % 4 = 3 by omega, show (4 * k.toNat + 3) / 4 = k.toNat by omega, Int.toNat_of_nonneg hk.1, up1_eq]
    simp
  · by_cases hq : ((i / 4 : Nat) : Int) = k
    · have h4 : ¬ i % 4 = 3 := fun z => hne (by omega)
      unfold stc
      rw [hq]
      have h5 : i % 4 = 0 ∨ i % 4 = 1 ∨ i % 4 = 2 ∨ i % 4 = 3 := by omega
      rcases h5 with h5 | h5 | h5 | h5 <;> rw [h5] at h4 ⊢ <;> first | exact absurd rfl h4 | simp
    · unfold stc
      rw [up1_ne _ _ hq]
theorem gF_st {k : Int} (hk : 0 ≤ k ∧ k < 25) : FI (MC s0 s1 handN handD gT gF alE alS alM fiF fiN fiD epN epD goH goN goD plS plP plM plA plBN plBD plLN plLD plR veW veF veP vsF vsN vsD juM juP juTN juTD juO scN scD noF noN noD neF neN neD arP arB arM arU arF arR arL arT arA arS leN leD grN grD arH arLU arGU shN shD stF stN stD rest) (69 + 4 * k.toNat) (70 + 4 * k.toNat) (71 + 4 * k.toNat) 8 (stN k) (stD k) := FI.of (gS_Fr hk) (gS_N hk) (gS_D hk) (by omega) (by omega) (by omega) (by decide)
theorem sF_st {k : Int} (hk : 0 ≤ k ∧ k < 25) {xx yy : Int → Int} : fsI (MC s0 s1 handN handD gT gF alE alS alM fiF fiN fiD epN epD goH goN goD plS plP plM plA plBN plBD plLN plLD plR veW veF veP vsF vsN vsD juM juP juTN juTD juO scN scD noF noN noD neF neN neD arP arB arM arU arF arR arL arT arA arS leN leD grN grD arH arLU arGU shN shD stF stN stD rest) (70 + 4 * k.toNat) (71 + 4 * k.toNat) 8 xx yy = (MC s0 s1 handN handD gT gF alE alS alM fiF fiN fiD epN epD goH goN goD plS plP plM plA plBN plBD plLN plLD plR veW veF veP vsF vsN vsD juM juP juTN juTD juO scN scD noF noN noD neF neN neD arP arB arM arU arF arR arL arT arA arS leN leD grN grD arH arLU arGU shN shD stF (up1 stN k xx) (up1 stD k yy) rest) := by
  unfold fsI
  rw [sS_N hk, sS_D hk]
end CLS
