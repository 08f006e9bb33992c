/-! The class: its list of actions, its goal, its states. -/
def ActX (needs needTime needOf needHow needN needD changes changeTime changeOf changeHow changeN changeD lastOf lastN lastD : Int → Int) (rest : AM) (b : Nat) (a : Int) : Prop := ∃ (nd : Int) (ch : Int) (me : Int → Prop) (nT : Int → Int → Prop) (nF : Int → Int → Prop) (cs : Int) (cT : Int → Int) (cO : Int → Int) (cH : Int → Int) (cN : Int → Int) (cD : Int → Int) (mT : Int → Int → Prop) (mF : Int → Int → Prop) (as : Int) (aT : Int → Int) (aO : Int → Int) (aH : Int → Int) (aN : Int → Int) (aD : Int → Int) (cG : Int → Int → Prop) (sA : Int → Int → Prop) (dO : Int → Int) (dN : Int → Int) (dD : Int → Int), (∀ i, i < 25 → rest[b - 168 + i]? = (actL b nd ch me nT nF cs cT cO cH cN cD mT mF as aT aO aH aN aD cG sA dO dN dD)[i]?) ∧ RELA needs needTime needOf needHow needN needD changes changeTime changeOf changeHow changeN changeD lastOf lastN lastD a nd ch me nT nF cs cT cO cH cN cD mT mF as aT aO aH aN aD cG sA dO dN dD
def ActsOK (needs needTime needOf needHow needN needD changes changeTime changeOf changeHow changeN changeD lastOf lastN lastD : Int → Int) (rest : AM) (alE : Nat) (acts : Int) (ab : Int → Nat) : Prop := ∀ a, 0 ≤ a → a < acts → (168 ≤ alE ∧ ∃ vs, rest[alE - 168]? = some (.inl (.object "java/lang/Object", vs)) ∧ vs[a.toNat]? = some (.ref (ab a))) ∧ 219 ≤ ab a ∧ ActX needs needTime needOf needHow needN needD changes changeTime changeOf changeHow changeN changeD lastOf lastN lastD rest (ab a) a
section R67
variable {s0 s1 : AC} {rest : AM} {ab : Int → Nat}
variable {alS alM plS plP veW veF veP juP arP arB arU arF : Int}
variable {handN handD fiN fiD epN epD goH goN goD plA plBN plBD plLN plLD plR vsN vsD juTN juTD juO scN scD noN noD neN neD arR arL arT arA arS leN leD grN grD arLU arGU shN shD : Int → Int}
variable {stN stD : Int → Int → Int}
variable {stF : Int → Int → Prop}
variable {gT gF fiF plM vsF juM noF neF arM arH : Int → Prop}
variable {alE : Nat}
variable {mem : AM}
variable {code amountN amountD momentN momentD epsilonN epsilonD actions steps rows tried triedRows unit point judged fault faultPoint outN outD : Int}
variable {firstN firstD wishes wants wantN wantD needs needTime needOf needHow needN needD changes changeTime changeOf changeHow changeN changeD lastOf lastN lastD stepAction startN startD lengthN lengthD row triedAction triedRow times numN numD oldN oldD toldN toldD pointN pointD leastN leastD greatestN greatestD events : Int → Int}
variable {firstFacts facts oldFacts toldFacts gone now : Int → Prop}
theorem ActX.m {b : Nat} {a : Int} (hb : 168 ≤ b) (h : ActX needs needTime needOf needHow needN needD changes changeTime changeOf changeHow changeN changeD lastOf lastN lastD rest b a) : ActM needs needTime needOf needHow needN needD changes changeTime changeOf changeHow changeN changeD lastOf lastN lastD (MC s0 s1 handN handD gT gF alE alS alM fiF fiN fiD epN epD goH goN goD plS plP plM plA plBN plBD plLN plLD plR veW veF veP vsF vsN vsD juM juP juTN juTD juO scN scD noF noN noD neF neN neD arP arB arM arU arF arR arL arT arA arS leN leD grN grD arH arLU arGU shN shD stF stN stD rest) b a := by
  obtain ⟨nd, ch, me, nT, nF, cs, cT, cO, cH, cN, cD, mT, mF, as, aT, aO, aH, aN, aD, cG, sA, dO, dN, dD, h1, h2⟩ := h
  refine ⟨nd, ch, me, nT, nF, cs, cT, cO, cH, cN, cD, mT, mF, as, aT, aO, aH, aN, aD, cG, sA, dO, dN, dD, fun i hi => ?_, h2⟩
  rw [← h1 i hi, show b + i = 168 + (b - 168 + i) by omega]
  exact gRest _
theorem ActM.ex {b : Nat} {a : Int} (h : ActM needs needTime needOf needHow needN needD changes changeTime changeOf changeHow changeN changeD lastOf lastN lastD mem b a) : ∃ fs, mem[b]? = some (.inr (1, fs)) := by
  obtain ⟨nd, ch, me, nT, nF, cs, cT, cO, cH, cN, cD, mT, mF, as, aT, aO, aH, aN, aD, cG, sA, dO, dN, dD, h1, h2⟩ := h
  exact ⟨_, gA_0 h1⟩
theorem actO {b : Nat} {a : Int} (h : ActM needs needTime needOf needHow needN needD changes changeTime changeOf changeHow changeN changeD lastOf lastN lastD mem b a) : mem[b]? = some (.inr (1, h.ex.choose)) := h.ex.choose_spec
theorem act_m (hO : ActsOK needs needTime needOf needHow needN needD changes changeTime changeOf changeHow changeN changeD lastOf lastN lastD rest alE alS ab) (wS : 0 ≤ alS ∧ alS ≤ 12) {a : Int} (h1 : 0 ≤ a) (h2 : a < alS) : ActM needs needTime needOf needHow needN needD changes changeTime changeOf changeHow changeN changeD lastOf lastN lastD (MC s0 s1 handN handD gT gF alE alS alM fiF fiN fiD epN epD goH goN goD plS plP plM plA plBN plBD plLN plLD plR veW veF veP vsF vsN vsD juM juP juTN juTD juO scN scD noF noN noD neF neN neD arP arB arM arU arF arR arL arT arA arS leN leD grN grD arH arLU arGU shN shD stF stN stD rest) (ab a) a := (hO a h1 h2).2.2.m (by have := (hO a h1 h2).2.1; omega)
theorem c_PJ_isEnd {d : Nat}  {p : Int} (b0 : 0 ≤ p ∧ p < 2147483648) : Cg true d m_PJ_isEnd [.int (iI p)] mem (.inl (some (.int (bP (¬ p % 2 = 0))))) mem := by
  refine Cg.of (Nat.le_of_ble_eq_true rfl) ?_
  change Rg _ _ _ _ 0 [(0, .int (iI p))] [] _ _ _
  refine Rg.step 1 F_PJ_isEnd_0 rfl (fun _ => rfl) ?_
  refine Rg.step 2 F_PJ_isEnd_1 rfl (fun _ => rfl) ?_
  refine Rg.par 3 F_PJ_isEnd_2 rfl (by omega) ?_
  refine Rg.ifeqI 10 6 F_PJ_isEnd_3 rfl rfl (by omega) (fun h3 => ?_) (fun h3 => ?_)
  · refine Rg.step 11 F_PJ_isEnd_10 rfl (fun _ => rfl) ?_
    exact Rg.ret0 F_PJ_isEnd_11 rfl (by omega) rfl
  · refine Rg.step 7 F_PJ_isEnd_6 rfl (fun _ => rfl) ?_
    refine Rg.step 11 F_PJ_isEnd_7 rfl (fun _ => rfl) ?_
    exact Rg.ret1 F_PJ_isEnd_11 rfl (by omega) rfl
theorem c_PJ_timeOf {d : Nat}  {p : Int} (b0 : 0 ≤ p ∧ p < 2147483648) : Cg true (d + 1) m_PJ_timeOf [.int (iI p)] mem (.inl (some (.int (iI (tmo p))))) mem := by
  refine Cg.of (Nat.le_of_ble_eq_true rfl) ?_
  change Rg _ _ _ _ 0 [(0, .int (iI p))] [] _ _ _
  refine Rg.step 1 F_PJ_timeOf_0 rfl (fun _ => rfl) ?_
  refine Rg.call 4 F_PJ_timeOf_1 rfl (one_S (by decide +kernel) rM_1_193 (by decide) (by simp) rfl rfl) (Nat.le_of_ble_eq_true rfl) (Cg.any (c_PJ_isEnd (by omega))) ?_
  refine Rg.ifeqP 11 7 F_PJ_timeOf_4 rfl rfl (fun h4 => ?_) (fun h4 => ?_)
  · refine Rg.step 12 F_PJ_timeOf_11 rfl (fun _ => rfl) ?_
    exact Rg.retI F_PJ_timeOf_12 rfl (tmo_e (p := p) (by omega)).symm rfl
  · refine Rg.step 8 F_PJ_timeOf_7 rfl (fun _ => rfl) ?_
    refine Rg.step 12 F_PJ_timeOf_8 rfl (fun _ => rfl) ?_
    exact Rg.retI F_PJ_timeOf_12 rfl (tmo_o (p := p) (by omega)).symm rfl
theorem c_Pre_checkIndex {d : Nat} {i n : Int} (h : 0 ≤ i ∧ i < n ∧ n < 2147483648) : Cg true d m_Preconditions_checkIndex [.int (iI i), .int (iI n), .null] mem (.inl (some (.int (iI i)))) mem := by
  refine Cg.of (Nat.le_of_ble_eq_true rfl) ?_
  change Rg _ _ _ _ 0 [(0, .int (iI i)), (1, .int (iI n)), (2, .null)] [] _ _ _
  refine Rg.step 1 F_Preconditions_checkIndex_0 rfl (fun _ => rfl) ?_
  refine Rg.ifltI 9 4 F_Preconditions_checkIndex_1 rfl rfl (by omega) (fun h1 => by omega) (fun _ => ?_)
  refine Rg.step 5 F_Preconditions_checkIndex_4 rfl (fun _ => rfl) ?_
  refine Rg.step 6 F_Preconditions_checkIndex_5 rfl (fun _ => rfl) ?_
  refine Rg.icltI 16 9 F_Preconditions_checkIndex_6 rfl rfl (by omega) (by omega) (fun _ => ?_) (fun h6 => by omega)
  refine Rg.step 17 F_Preconditions_checkIndex_16 rfl (fun _ => rfl) ?_
  exact Rg.retI F_Preconditions_checkIndex_17 rfl rfl rfl
theorem c_Obj_checkIndex {d : Nat}  {i n : Int} (h : 0 ≤ i ∧ i < n ∧ n < 2147483648) : Cg true (d + 1) m_Objects_checkIndex [.int (iI i), .int (iI n)] mem (.inl (some (.int (iI i)))) mem := by
  refine Cg.of (Nat.le_of_ble_eq_true rfl) ?_
  change Rg _ _ _ _ 0 [(0, .int (iI i)), (1, .int (iI n))] [] _ _ _
  refine Rg.step 1 F_Objects_checkIndex_0 rfl (fun _ => rfl) ?_
  refine Rg.step 2 F_Objects_checkIndex_1 rfl (fun _ => rfl) ?_
  refine Rg.step 3 F_Objects_checkIndex_2 rfl (fun _ => rfl) ?_
  refine Rg.call 6 F_Objects_checkIndex_3 rfl (one_S (by decide +kernel) rM_15_105 (by decide) (by simp) rfl rfl) (Nat.le_of_ble_eq_true rfl) (c_Pre_checkIndex h) ?_
  exact Rg.retI F_Objects_checkIndex_6 rfl rfl rfl
theorem c_list_size {d : Nat}   : Cg true d m_ArrayList_size [.ref 7] (MC s0 s1 handN handD gT gF alE alS alM fiF fiN fiD epN epD goH goN goD plS plP plM plA plBN plBD plLN plLD plR veW veF veP vsF vsN vsD juM juP juTN juTD juO scN scD noF noN noD neF neN neD arP arB arM arU arF arR arL arT arA arS leN leD grN grD arH arLU arGU shN shD stF stN stD rest) (.inl (some (.int (iI alS)))) (MC s0 s1 handN handD gT gF alE alS alM fiF fiN fiD epN epD goH goN goD plS plP plM plA plBN plBD plLN plLD plR veW veF veP vsF vsN vsD juM juP juTN juTD juO scN scD noF noN noD neF neN neD arP arB arM arU arF arR arL arT arA arS leN leD grN grD arH arLU arGU shN shD stF stN stD rest) := by
  refine Cg.of (Nat.le_of_ble_eq_true rfl) ?_
  change Rg _ _ _ _ 0 [(0, .ref 7)] [] _ _ _
  refine Rg.step 1 F_ArrayList_size_0 rfl (fun _ => rfl) ?_
  refine Rg.getf 4 F_ArrayList_size_1 rfl rF_6_48 gC_7 rfl ?_
  exact Rg.retI F_ArrayList_size_4 rfl rfl rfl
theorem c_list_data {d : Nat} (hO : ActsOK needs needTime needOf needHow needN needD changes changeTime changeOf changeHow changeN changeD lastOf lastN lastD rest alE alS ab) (wS : 0 ≤ alS ∧ alS ≤ 12) {a : Int} (h1 : 0 ≤ a) (h2 : a < alS) : Cg true d m_ArrayList_elementData [.ref 7, .int (iI a)] (MC s0 s1 handN handD gT gF alE alS alM fiF fiN fiD epN epD goH goN goD plS plP plM plA plBN plBD plLN plLD plR veW veF veP vsF vsN vsD juM juP juTN juTD juO scN scD noF noN noD neF neN neD arP arB arM arU arF arR arL arT arA arS leN leD grN grD arH arLU arGU shN shD stF stN stD rest) (.inl (some (.ref (ab a)))) (MC s0 s1 handN handD gT gF alE alS alM fiF fiN fiD epN epD goH goN goD plS plP plM plA plBN plBD plLN plLD plR veW veF veP vsF vsN vsD juM juP juTN juTD juO scN scD noF noN noD neF neN neD arP arB arM arU arF arR arL arT arA arS leN leD grN grD arH arLU arGU shN shD stF stN stD rest) := by
  obtain ⟨⟨q1, vs, q2, q3⟩, -, -⟩ := hO a h1 h2
  have q4 : (MC s0 s1 handN handD gT gF alE alS alM fiF fiN fiD epN epD goH goN goD plS plP plM plA plBN plBD plLN plLD plR veW veF veP vsF vsN vsD juM juP juTN juTD juO scN scD noF noN noD neF neN neD arP arB arM arU arF arR arL arT arA arS leN leD grN grD arH arLU arGU shN shD stF stN stD rest)[alE]? = some (.inl (.object "java/lang/Object", vs)) := by
    rw [← q2]
    have := gRest (rest := rest) (s0 := s0) (s1 := s1) (handN := handN) (handD := handD) (gT := gT) (gF := gF) (alE := alE) (alS := alS) (alM := alM) (fiF := fiF) (fiN := fiN) (fiD := fiD) (epN := epN) (epD := epD) (goH := goH) (goN := goN) (goD := goD) (plS := plS) (plP := plP) (plM := plM) (plA := plA) (plBN := plBN) (plBD := plBD) (plLN := plLN) (plLD := plLD) (plR := plR) (veW := veW) (veF := veF) (veP := veP) (vsF := vsF) (vsN := vsN) (vsD := vsD) (juM := juM) (juP := juP) (juTN := juTN) (juTD := juTD) (juO := juO) (scN := scN) (scD := scD) (noF := noF) (noN := noN) (noD := noD) (neF := neF) (neN := neN) (neD := neD) (arP := arP) (arB := arB) (arM := arM) (arU := arU) (arF := arF) (arR := arR) (arL := arL) (arT := arT) (arA := arA) (arS := arS) (leN := leN) (leD := leD) (grN := grN) (grD := grD) (arH := arH) (arLU := arLU) (arGU := arGU) (shN := shN) (shD := shD) (stF := stF) (stN := stN) (stD := stD) (alE - 168)
    rw [show 168 + (alE - 168) = alE by omega] at this
    exact this
  refine Cg.of (Nat.le_of_ble_eq_true rfl) ?_
  change Rg _ _ _ _ 0 [(0, .ref 7), (1, .int (iI a))] [] _ _ _
  refine Rg.step 1 F_ArrayList_elementData_0 rfl (fun _ => rfl) ?_
  refine Rg.getf 4 F_ArrayList_elementData_1 rfl rF_6_9 gC_7 rfl ?_
  refine Rg.step 5 F_ArrayList_elementData_4 rfl (fun _ => rfl) ?_
  refine Rg.aald 6 F_ArrayList_elementData_5 rfl q4 (ix_iI (by omega)) q3 ?_
  exact Rg.ret F_ArrayList_elementData_6 rfl
theorem c_list_get {d : Nat}  (hO : ActsOK needs needTime needOf needHow needN needD changes changeTime changeOf changeHow changeN changeD lastOf lastN lastD rest alE alS ab) (wS : 0 ≤ alS ∧ alS ≤ 12) {a : Int} (h1 : 0 ≤ a) (h2 : a < alS) : Cg true (d + 2) m_ArrayList_get [.ref 7, .int (iI a)] (MC s0 s1 handN handD gT gF alE alS alM fiF fiN fiD epN epD goH goN goD plS plP plM plA plBN plBD plLN plLD plR veW veF veP vsF vsN vsD juM juP juTN juTD juO scN scD noF noN noD neF neN neD arP arB arM arU arF arR arL arT arA arS leN leD grN grD arH arLU arGU shN shD stF stN stD rest) (.inl (some (.ref (ab a)))) (MC s0 s1 handN handD gT gF alE alS alM fiF fiN fiD epN epD goH goN goD plS plP plM plA plBN plBD plLN plLD plR veW veF veP vsF vsN vsD juM juP juTN juTD juO scN scD noF noN noD neF neN neD arP arB arM arU arF arR arL arT arA arS leN leD grN grD arH arLU arGU shN shD stF stN stD rest) := by
  refine Cg.of (Nat.le_of_ble_eq_true rfl) ?_
  change Rg _ _ _ _ 0 [(0, .ref 7), (1, .int (iI a))] [] _ _ _
  refine Rg.step 1 F_ArrayList_get_0 rfl (fun _ => rfl) ?_
  refine Rg.step 2 F_ArrayList_get_1 rfl (fun _ => rfl) ?_
  refine Rg.getf 5 F_ArrayList_get_2 rfl rF_6_48 gC_7 rfl ?_
  refine Rg.call 8 F_ArrayList_get_5 rfl (one_S (by decide +kernel) rM_6_118 (by decide) (by simp) rfl rfl) (Nat.le_of_ble_eq_true rfl) (c_Obj_checkIndex (by omega)) ?_
  refine Rg.step 9 F_ArrayList_get_8 rfl (fun _ => rfl) ?_
  refine Rg.step 10 F_ArrayList_get_9 rfl (fun _ => rfl) ?_
  refine Rg.step 11 F_ArrayList_get_10 rfl (fun _ => rfl) ?_
  refine Rg.call 14 F_ArrayList_get_11 rfl (one_V rM_6_123 (by decide) (by simp) rfl rfl gC_7 rfl) (Nat.le_of_ble_eq_true rfl) (c_list_data hO wS h1 h2) ?_
  exact Rg.ret F_ArrayList_get_14 rfl
theorem c_Ju_actionAt {d : Nat}  (hO : ActsOK needs needTime needOf needHow needN needD changes changeTime changeOf changeHow changeN changeD lastOf lastN lastD rest alE alS ab) (wS : 0 ≤ alS ∧ alS ≤ 12) {p : Int} (h1 : 0 ≤ p ∧ p < 24) (h2 : 0 ≤ plA (p / 2) ∧ plA (p / 2) < alS) : Cg true (d + 3) m_Judge_actionAt [.ref 6, .ref 19, .int (iI p)] (MC s0 s1 handN handD gT gF alE alS alM fiF fiN fiD epN epD goH goN goD plS plP plM plA plBN plBD plLN plLD plR veW veF veP vsF vsN vsD juM juP juTN juTD juO scN scD noF noN noD neF neN neD arP arB arM arU arF arR arL arT arA arS leN leD grN grD arH arLU arGU shN shD stF stN stD rest) (.inl (some (.ref (ab (plA (p / 2)))))) (MC s0 s1 handN handD gT gF alE alS alM fiF fiN fiD epN epD goH goN goD plS plP plM plA plBN plBD plLN plLD plR veW veF veP vsF vsN vsD juM juP juTN juTD juO scN scD noF noN noD neF neN neD arP arB arM arU arF arR arL arT arA arS leN leD grN grD arH arLU arGU shN shD stF stN stD rest) := by
  have hm := act_m (s0 := s0) (s1 := s1) (rest := rest) (handN := handN) (handD := handD) (gT := gT) (gF := gF) (alE := alE) (alS := alS) (alM := alM) (fiF := fiF) (fiN := fiN) (fiD := fiD) (epN := epN) (epD := epD) (goH := goH) (goN := goN) (goD := goD) (plS := plS) (plP := plP) (plM := plM) (plA := plA) (plBN := plBN) (plBD := plBD) (plLN := plLN) (plLD := plLD) (plR := plR) (veW := veW) (veF := veF) (veP := veP) (vsF := vsF) (vsN := vsN) (vsD := vsD) (juM := juM) (juP := juP) (juTN := juTN) (juTD := juTD) (juO := juO) (scN := scN) (scD := scD) (noF := noF) (noN := noN) (noD := noD) (neF := neF) (neN := neN) (neD := neD) (arP := arP) (arB := arB) (arM := arM) (arU := arU) (arF := arF) (arR := arR) (arL := arL) (arT := arT) (arA := arA) (arS := arS) (leN := leN) (leD := leD) (grN := grN) (grD := grD) (arH := arH) (arLU := arLU) (arGU := arGU) (shN := shN) (shD := shD) (stF := stF) (stN := stN) (stD := stD) hO wS h2.1 h2.2
  refine Cg.of (Nat.le_of_ble_eq_true rfl) ?_
  change Rg _ _ _ _ 0 [(0, .ref 6), (1, .ref 19), (2, .int (iI p))] [] _ _ _
  refine Rg.step 1 F_Judge_actionAt_0 rfl (fun _ => rfl) ?_
  refine Rg.getf 4 F_Judge_actionAt_1 rfl rF_12_144 gC_6 rfl ?_
  refine Rg.step 5 F_Judge_actionAt_4 rfl (fun _ => rfl) ?_
  refine Rg.getf 8 F_Judge_actionAt_5 rfl rF_12_148 gC_19 rfl ?_
  refine Rg.step 9 F_Judge_actionAt_8 rfl (fun _ => rfl) ?_
  refine Rg.step 10 F_Judge_actionAt_9 rfl (fun _ => rfl) ?_
  refine Rg.divIp 11 F_Judge_actionAt_10 rfl (by omega) (by omega) ?_
  refine Rg.ild 12 F_Judge_actionAt_11 rfl gC_20 (by omega) (by decide) ?_
  refine Rg.call 15 F_Judge_actionAt_12 rfl (one_V rM_12_151 (by decide) (by simp) rfl rfl gC_7 rfl) (Nat.le_of_ble_eq_true rfl) (c_list_get hO wS h2.1 h2.2) ?_
  refine Rg.cast 18 F_Judge_actionAt_15 rfl rC_12_121 (actO hm) ?_
  exact Rg.ret F_Judge_actionAt_18 rfl
variable {sx fx u v : Nat} {F : Int → Prop} {N D : Int → Int}
theorem goalm_loop {d n0 : Nat} (hs : (MC s0 s1 handN handD gT gF alE alS alM fiF fiN fiD epN epD goH goN goD plS plP plM plA plBN plBD plLN plLD plR veW veF veP vsF vsN vsD juM juP juTN juTD juO scN scD noF noN noD neF neN neD arP arB arM arU arF arR arL arT arA arS leN leD grN grD arH arLU arGU shN shD stF stN stD rest)[sx]? = some (.inr (6, [.int (mk F), .ref fx]))) (hf : FI (MC s0 s1 handN handD gT gF alE alS alM fiF fiN fiD epN epD goH goN goD plS plP plM plA plBN plBD plLN plLD plR veW veF veP vsF vsN vsD juM juP juTN juTD juO scN scD noF noN noD neF neN neD arP arB arM arU arF arR arL arT arA arS leN leD grN grD arH arLU arGU shN shD stF stN stD rest) fx u v 8 N D) (wN : WN N D) (wV : ∀ k, -1 ≤ goH k ∧ goH k ≤ 4) (wG : ∀ k, -100000 ≤ goN k ∧ goN k ≤ 100000 ∧ 0 < goD k ∧ goD k ≤ 1000) {B : Prop} : ∀ (n : Nat) (k : Int), k + n = 8 → 0 ≤ k → (B ↔ ∀ i, 0 ≤ i → i < 8 → (¬ goH i = -1 → cmps (goH i) (cmpF (N i) (D i) (goN i) (goD i)))) → (∀ i, 0 ≤ i → i < k → (¬ goH i = -1 → cmps (goH i) (cmpF (N i) (D i) (goN i) (goD i)))) → Rg true (d + 3) m_Task_isGoalMet n0 19 [(2, .int (iI k)), (0, .ref 6), (1, .ref sx)] [] (MC s0 s1 handN handD gT gF alE alS alM fiF fiN fiD epN epD goH goN goD plS plP plM plA plBN plBD plLN plLD plR veW veF veP vsF vsN vsD juM juP juTN juTD juO scN scD noF noN noD neF neN neD arP arB arM arU arF arR arL arT arA arS leN leD grN grD arH arLU arGU shN shD stF stN stD rest) (.inl (some (.int (bP B)))) (MC s0 s1 handN handD gT gF alE alS alM fiF fiN fiD epN epD goH goN goD plS plP plM plA plBN plBD plLN plLD plR veW veF veP vsF vsN vsD juM juP juTN juTD juO scN scD noF noN noD neF neN neD arP arB arM arU arF arR arL arT arA arS leN leD grN grD arH arLU arGU shN shD stF stN stD rest) := by
  intro n
  induction n with
  | zero =>
    intro k hk hk2 hB hp
    refine Rg.step 20 F_Task_isGoalMet_19 rfl (fun _ => rfl) ?_
    refine Rg.bip 22 F_Task_isGoalMet_20 rfl rfl ?_
    refine Rg.icgeI 65 25 F_Task_isGoalMet_22 rfl rfl (by omega) (by omega) (fun _ => ?_) (fun h22 => by omega)
    refine Rg.step 66 F_Task_isGoalMet_65 rfl (fun _ => rfl) ?_
    exact Rg.ret1 F_Task_isGoalMet_66 rfl (hB.mpr (fun i z1 z2 => hp i z1 (by omega))) rfl
  | succ n ih =>
    intro k hk hk2 hB hp
    have v1 := wV k
    have v2 := wG k
    have v3 := wN k
    have nx : (¬ goH k = -1 → cmps (goH k) (cmpF (N k) (D k) (goN k) (goD k))) → ∀ i, 0 ≤ i → i < k + 1 → (¬ goH i = -1 → cmps (goH i) (cmpF (N i) (D i) (goN i) (goD i))) := fun z i z1 z2 => by
      by_cases hi : i = k
      · rw [hi]; exact z
      · exact hp i z1 (by omega)
    refine Rg.step 20 F_Task_isGoalMet_19 rfl (fun _ => rfl) ?_
    refine Rg.bip 22 F_Task_isGoalMet_20 rfl rfl ?_
    refine Rg.icgeI 65 25 F_Task_isGoalMet_22 rfl rfl (by omega) (by omega) (fun h22 => by omega) (fun _ => ?_)
    refine Rg.step 26 F_Task_isGoalMet_25 rfl (fun _ => rfl) ?_
    refine Rg.getf 29 F_Task_isGoalMet_26 rfl rF_5_34 gC_6 rfl ?_
    refine Rg.step 30 F_Task_isGoalMet_29 rfl (fun _ => rfl) ?_
    refine Rg.ild 31 F_Task_isGoalMet_30 rfl gC_15 (by omega) (by decide) ?_
    refine Rg.step 32 F_Task_isGoalMet_31 rfl (fun _ => rfl) ?_
    refine Rg.iceqI 59 35 F_Task_isGoalMet_32 rfl rfl (by omega) (by omega) (fun h32 => ?_) (fun h32 => ?_)
    · refine Rg.inc 62 F_Task_isGoalMet_59 rfl rfl (by decide) ?_
      refine Rg.step 19 F_Task_isGoalMet_62 rfl (fun _ => rfl) ?_
      exact Rg.weak (ih (k + 1) (by omega) (by omega) hB (nx (fun z => absurd h32 z))) (by simp [lput1, lput2, Value.category, fi0, fi1, fi2, fi3] <;> first | rfl | exact ⟨rfl, rfl⟩) (by simp [lput1, lput2, Value.category, fi0, fi1, fi2, fi3] <;> first | rfl | exact ⟨rfl, rfl⟩)
    · refine Rg.step 36 F_Task_isGoalMet_35 rfl (fun _ => rfl) ?_
      refine Rg.getf 39 F_Task_isGoalMet_36 rfl rF_5_68 hs rfl ?_
      refine Rg.step 40 F_Task_isGoalMet_39 rfl (fun _ => rfl) ?_
      refine Rg.step 41 F_Task_isGoalMet_40 rfl (fun _ => rfl) ?_
      refine Rg.getf 44 F_Task_isGoalMet_41 rfl rF_5_34 gC_6 rfl ?_
      refine Rg.step 45 F_Task_isGoalMet_44 rfl (fun _ => rfl) ?_
      refine Rg.ild 46 F_Task_isGoalMet_45 rfl gC_15 (by omega) (by decide) ?_
      refine Rg.step 47 F_Task_isGoalMet_46 rfl (fun _ => rfl) ?_
      refine Rg.getf 50 F_Task_isGoalMet_47 rfl rF_5_38 gC_6 rfl ?_
      refine Rg.step 51 F_Task_isGoalMet_50 rfl (fun _ => rfl) ?_
      refine Rg.call 54 F_Task_isGoalMet_51 rfl (one_V rM_5_71 (by decide) (by simp) rfl rfl (FI.o hf) rfl) (Nat.le_of_ble_eq_true rfl) (c_Fr_isSo hf gF_go (by omega) (by omega) (by decide) (by omega) (by omega) (by omega) (by omega) (by omega)) ?_
      refine Rg.ifneP 59 57 F_Task_isGoalMet_54 rfl rfl (fun h54 => ?_) (fun h54 => ?_)
      · refine Rg.inc 62 F_Task_isGoalMet_59 rfl rfl (by decide) ?_
        refine Rg.step 19 F_Task_isGoalMet_62 rfl (fun _ => rfl) ?_
        exact Rg.weak (ih (k + 1) (by omega) (by omega) hB (nx (fun _ => h54))) (by simp [lput1, lput2, Value.category, fi0, fi1, fi2, fi3] <;> first | rfl | exact ⟨rfl, rfl⟩) (by simp [lput1, lput2, Value.category, fi0, fi1, fi2, fi3] <;> first | rfl | exact ⟨rfl, rfl⟩)
      · refine Rg.step 58 F_Task_isGoalMet_57 rfl (fun _ => rfl) ?_
        exact Rg.ret0 F_Task_isGoalMet_58 rfl (fun z => h54 (hB.mp z k hk2 (by omega) h32)) rfl
theorem c_Task_isGoalMet {d : Nat} (hw : WT epsilonN epsilonD wishes wants wantN wantD actions needs needTime needOf needHow needN needD changes changeTime changeOf changeHow changeN changeD lastOf lastN lastD firstN firstD) (hT : ∀ i, 0 ≤ i → i < 24 → (gT i ↔ i < 16 ∧ wishes i = 1)) (hF : ∀ i, 0 ≤ i → i < 24 → (gF i ↔ i < 16 ∧ wishes i = 0)) (hH : goH = wants) (hgN : goN = wantN) (hgD : goD = wantD) (hs : (MC s0 s1 handN handD gT gF alE alS alM fiF fiN fiD epN epD goH goN goD plS plP plM plA plBN plBD plLN plLD plR veW veF veP vsF vsN vsD juM juP juTN juTD juO scN scD noF noN noD neF neN neD arP arB arM arU arF arR arL arT arA arS leN leD grN grD arH arLU arGU shN shD stF stN stD rest)[sx]? = some (.inr (6, [.int (mk F), .ref fx]))) (hf : FI (MC s0 s1 handN handD gT gF alE alS alM fiF fiN fiD epN epD goH goN goD plS plP plM plA plBN plBD plLN plLD plR veW veF veP vsF vsN vsD juM juP juTN juTD juO scN scD noF noN noD neF neN neD arP arB arM arU arF arR arL arT arA arS leN leD grN grD arH arLU arGU shN shD stF stN stD rest) fx u v 8 N D) (wN : WN N D) : Cg true (d + 3) m_Task_isGoalMet [.ref 6, .ref sx] (MC s0 s1 handN handD gT gF alE alS alM fiF fiN fiD epN epD goH goN goD plS plP plM plA plBN plBD plLN plLD plR veW veF veP vsF vsN vsD juM juP juTN juTD juO scN scD noF noN noD neF neN neD arP arB arM arU arF arR arL arT arA arS leN leD grN grD arH arLU arGU shN shD stF stN stD rest) (.inl (some (.int (bP (goal wishes wants wantN wantD F N D))))) (MC s0 s1 handN handD gT gF alE alS alM fiF fiN fiD epN epD goH goN goD plS plP plM plA plBN plBD plLN plLD plR veW veF veP vsF vsN vsD juM juP juTN juTD juO scN scD noF noN noD neF neN neD arP arB arM arU arF arR arL arT arA arS leN leD grN grD arH arLU arGU shN shD stF stN stD rest) := by
  obtain ⟨-, wW, wV, wVN, -, -, -, -, -, -, -, -, -, -, -, -, -, -, -, -, -⟩ := id hw
  subst hH hgN hgD
  rw [← bP_c (goal_cls hT hF wW wV)]
  refine Cg.of (Nat.le_of_ble_eq_true rfl) ?_
  change Rg _ _ _ _ 0 [(0, .ref 6), (1, .ref sx)] [] _ _ _
  refine Rg.step 1 F_Task_isGoalMet_0 rfl (fun _ => rfl) ?_
  refine Rg.step 2 F_Task_isGoalMet_1 rfl (fun _ => rfl) ?_
  refine Rg.getf 5 F_Task_isGoalMet_2 rfl rF_5_53 gC_6 rfl ?_
  refine Rg.step 6 F_Task_isGoalMet_5 rfl (fun _ => rfl) ?_
  refine Rg.getf 9 F_Task_isGoalMet_6 rfl rF_5_61 gC_6 rfl ?_
  refine Rg.call 12 F_Task_isGoalMet_9 rfl (one_V rM_5_64 (by decide) (by simp) rfl rfl hs rfl) (Nat.le_of_ble_eq_true rfl) (c_State_hasFacts hs) ?_
  refine Rg.ifneP 17 15 F_Task_isGoalMet_12 rfl rfl (fun h12 => ?_) (fun h12 => ?_)
  · refine Rg.step 18 F_Task_isGoalMet_17 rfl (fun _ => rfl) ?_
    refine Rg.step 19 F_Task_isGoalMet_18 rfl (fun _ => rfl) ?_
    exact Rg.weak (goalm_loop hs hf wN wV wVN 8 0 (by omega) (by omega) ⟨fun z => z.2, fun z => ⟨h12, z⟩⟩ (fun i z1 z2 => by omega)) (by simp [lput1, lput2, Value.category, fi0, fi1, fi2, fi3] <;> first | rfl | exact ⟨rfl, rfl⟩) (by simp [lput1, lput2, Value.category, fi0, fi1, fi2, fi3] <;> first | rfl | exact ⟨rfl, rfl⟩)
  · refine Rg.step 16 F_Task_isGoalMet_15 rfl (fun _ => rfl) ?_
    exact Rg.ret0 F_Task_isGoalMet_16 rfl (fun z => h12 z.1) rfl
theorem c_State_copyFrom {d : Nat} {sx fx u v sy fy u2 v2 : Nat} {F F2 : Int → Prop} {N D N2 D2 : Int → Int} (hs : mem[sx]? = some (.inr (6, [.int (mk F), .ref fx]))) (hf : FI mem fx u v 8 N D) (hs2 : mem[sy]? = some (.inr (6, [.int (mk F2), .ref fy]))) (hf2 : FI mem fy u2 v2 8 N2 D2) (g1 : 2 ≤ sx) (hne : sx ≠ sy) (hv : v2 ≠ u) : Cg false (d + 1) m_State_copyFrom [.ref sx, .ref sy] mem (.inl none) (stS mem sx fx u v F2 N2 D2) := by
  obtain ⟨n1, n2, n3, n4, n5, n6⟩ := st_ne hs hf
  have q1 : sx ≠ fy := fun z => by have := FI.o hf2; rw [← z, hs] at this; cases this
  have q2 : sx ≠ u2 := fun z => by have := FI.u hf2; rw [← z, hs] at this; cases this
  have q3 : sx ≠ v2 := fun z => by have := FI.d hf2; rw [← z, hs] at this; cases this
  have f1 : FI (mem.set sx (.inr (6, [.int (mk F2), .ref fx]))) fx u v 8 N D := FI.of (get_set_ne (FI.o hf) n3) (get_set_ne (FI.u hf) n1) (get_set_ne (FI.d hf) n2) n6 hf.2.2.2.2.1 hf.2.2.2.2.2.1 (by decide)
  have f2 : FI (mem.set sx (.inr (6, [.int (mk F2), .ref fx]))) fy u2 v2 8 N2 D2 := FI.of (get_set_ne (FI.o hf2) q1) (get_set_ne (FI.u hf2) q2) (get_set_ne (FI.d hf2) q3) hf2.2.2.2.1 hf2.2.2.2.2.1 hf2.2.2.2.2.2.1 (by decide)
  have e1 : fsI (mem.set sx (.inr (6, [.int (mk F2), .ref fx]))) u v 8 N2 D2 = stS mem sx fx u v F2 N2 D2 := by
    unfold stS fsI
    rw [List.set_comm _ _ n1, List.set_comm _ _ n2]
  have s1 : (mem.set sx (.inr (6, [.int (mk F2), .ref fx])))[sx]? = some (.inr (6, [.int (mk F2), .ref fx])) := get_set_eq hs
  have s2 : (mem.set sx (.inr (6, [.int (mk F2), .ref fx])))[sy]? = some (.inr (6, [.int (mk F2), .ref fy])) := get_set_ne hs2 hne
  rw [← e1]
  refine Cg.of (Nat.le_of_ble_eq_true rfl) ?_
  change Rg _ _ _ _ 0 [(0, .ref sx), (1, .ref sy)] [] _ _ _
  refine Rg.step 1 F_State_copyFrom_0 rfl (fun _ => rfl) ?_
  refine Rg.step 2 F_State_copyFrom_1 rfl (fun _ => rfl) ?_
  refine Rg.getf 5 F_State_copyFrom_2 rfl rF_9_20 hs2 rfl ?_
  refine Rg.put 8 F_State_copyFrom_5 rfl rF_9_20 hs g1 (Nat.le_of_ble_eq_true rfl) (Or.inl rfl) rfl (show _ = mem.set sx (.inr (6, [.int (mk F2), .ref fx])) from rfl) ?_
  refine Rg.step 9 F_State_copyFrom_8 rfl (fun _ => rfl) ?_
  refine Rg.getf 12 F_State_copyFrom_9 rfl rF_9_14 s1 rfl ?_
  refine Rg.step 13 F_State_copyFrom_12 rfl (fun _ => rfl) ?_
  refine Rg.getf 16 F_State_copyFrom_13 rfl rF_9_14 s2 rfl ?_
  refine Rg.call 19 F_State_copyFrom_16 rfl (one_V rM_9_24 (by decide) (by simp) rfl rfl (FI.o f1) rfl) (Nat.le_of_ble_eq_true rfl) (c_FrI_copyAll _ f1 f2 hv) ?_
  exact Rg.retV F_State_copyFrom_19 rfl rfl
end R67
