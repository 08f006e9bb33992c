/-! The class: a new action. -/
section R90
variable {s0 s1 : AC} {rest mem : AM} {ab : Int → Nat} {b : Nat}
variable {alS alM plS plP veW veF veP juP arP arB arU arF : Int}
variable {handN handD fiN fiD epN epD goH goN goD plA plBN plBD plLN plLD plR vsN vsD juTN juTD juO scN scD noN noD neN neD arR arL arT arA arS leN leD grN grD arLU arGU shN shD : Int → Int}
variable {stN stD : Int → Int → Int}
variable {stF : Int → Int → Prop}
variable {gT gF fiF plM vsF juM noF neF arM arH : Int → Prop}
variable {alE : Nat}
variable {code amountN amountD momentN momentD epsilonN epsilonD actions steps rows tried triedRows unit point judged fault faultPoint outN outD : Int}
variable {firstN firstD wishes wants wantN wantD needs needTime needOf needHow needN needD changes changeTime changeOf changeHow changeN changeD lastOf lastN lastD stepAction startN startD lengthN lengthD row triedAction triedRow times numN numD oldN oldD toldN toldD pointN pointD leastN leastD greatestN greatestD events : Int → Int}
variable {firstFacts facts oldFacts toldFacts gone now : Int → Prop}
variable {a : Int} {vs fs : List Value} {x y : Int} {k : Nat}
theorem gR' {j : Nat} (h : 168 ≤ j) : (MC s0 s1 handN handD gT gF alE actions alM fiF fiN fiD epN epD goH goN goD plS plP plM plA plBN plBD plLN plLD plR veW veF veP vsF vsN vsD juM juP juTN juTD juO scN scD noF noN noD neF neN neD arP arB arM arU arF arR arL arT arA arS leN leD grN grD arH arLU arGU shN shD stF stN stD rest)[j]? = rest[j - 168]? := by
  have := gRest (s0 := s0) (s1 := s1) (rest := rest) (handN := handN) (handD := handD) (gT := gT) (gF := gF) (alE := alE) (alS := actions) (alM := alM) (fiF := fiF) (fiN := fiN) (fiD := fiD) (epN := epN) (epD := epD) (goH := goH) (goN := goN) (goD := goD) (plS := plS) (plP := plP) (plM := plM) (plA := plA) (plBN := plBN) (plBD := plBD) (plLN := plLN) (plLD := plLD) (plR := plR) (veW := veW) (veF := veF) (veP := veP) (vsF := vsF) (vsN := vsN) (vsD := vsD) (juM := juM) (juP := juP) (juTN := juTN) (juTD := juTD) (juO := juO) (scN := scN) (scD := scD) (noF := noF) (noN := noN) (noD := noD) (neF := neF) (neN := neN) (neD := neD) (arP := arP) (arB := arB) (arM := arM) (arU := arU) (arF := arF) (arR := arR) (arL := arL) (arT := arT) (arA := arA) (arS := arS) (leN := leN) (leD := leD) (grN := grN) (grD := grD) (arH := arH) (arLU := arLU) (arGU := arGU) (shN := shN) (shD := shD) (stF := stF) (stN := stN) (stD := stD) (j - 168)
  rw [show 168 + (j - 168) = j by omega] at this
  exact this
theorem sR' {j : Nat} {c : AC} (h : 168 ≤ j) : (MC s0 s1 handN handD gT gF alE actions alM fiF fiN fiD epN epD goH goN goD plS plP plM plA plBN plBD plLN plLD plR veW veF veP vsF vsN vsD juM juP juTN juTD juO scN scD noF noN noD neF neN neD arP arB arM arU arF arR arL arT arA arS leN leD grN grD arH arLU arGU shN shD stF stN stD rest).set j c = (MC s0 s1 handN handD gT gF alE actions alM fiF fiN fiD epN epD goH goN goD plS plP plM plA plBN plBD plLN plLD plR veW veF veP vsF vsN vsD juM juP juTN juTD juO scN scD noF noN noD neF neN neD arP arB arM arU arF arR arL arT arA arS leN leD grN grD arH arLU arGU shN shD stF stN stD (rest.set (j - 168) c)) := by
  have := sRest (s0 := s0) (s1 := s1) (rest := rest) (handN := handN) (handD := handD) (gT := gT) (gF := gF) (alE := alE) (alS := actions) (alM := alM) (fiF := fiF) (fiN := fiN) (fiD := fiD) (epN := epN) (epD := epD) (goH := goH) (goN := goN) (goD := goD) (plS := plS) (plP := plP) (plM := plM) (plA := plA) (plBN := plBN) (plBD := plBD) (plLN := plLN) (plLD := plLD) (plR := plR) (veW := veW) (veF := veF) (veP := veP) (vsF := vsF) (vsN := vsN) (vsD := vsD) (juM := juM) (juP := juP) (juTN := juTN) (juTD := juTD) (juO := juO) (scN := scN) (scD := scD) (noF := noF) (noN := noN) (noD := noD) (neF := neF) (neN := neN) (neD := neD) (arP := arP) (arB := arB) (arM := arM) (arU := arU) (arF := arF) (arR := arR) (arL := arL) (arT := arT) (arA := arA) (arS := arS) (leN := leN) (leD := leD) (grN := grN) (grD := grD) (arH := arH) (arLU := arLU) (arGU := arGU) (shN := shN) (shD := shD) (stF := stF) (stN := stN) (stD := stD) (j - 168) c
  rw [show 168 + (j - 168) = j by omega] at this
  exact this
theorem lenM : (MC s0 s1 handN handD gT gF alE actions alM fiF fiN fiD epN epD goH goN goD plS plP plM plA plBN plBD plLN plLD plR veW veF veP vsF vsN vsD juM juP juTN juTD juO scN scD noF noN noD neF neN neD arP arB arM arU arF arR arL arT arA arS leN leD grN grD arH arLU arGU shN shD stF stN stD rest).length = 168 + rest.length := by
  rw [mc_app, List.length_append, mc_len]
theorem appM {Y : AM} : (MC s0 s1 handN handD gT gF alE actions alM fiF fiN fiD epN epD goH goN goD plS plP plM plA plBN plBD plLN plLD plR veW veF veP vsF vsN vsD juM juP juTN juTD juO scN scD noF noN noD neF neN neD arP arB arM arU arF arR arL arT arA arS leN leD grN grD arH arLU arGU shN shD stF stN stD rest) ++ Y = (MC s0 s1 handN handD gT gF alE actions alM fiF fiN fiD epN epD goH goN goD plS plP plM plA plBN plBD plLN plLD plR veW veF veP vsF vsN vsD juM juP juTN juTD juO scN scD noF noN noD neF neN neD arP arB arM arU arF arR arL arT arA arS leN leD grN grD arH arLU arGU shN shD stF stN stD (rest ++ Y)) := by
  rw [mc_app, mc_app (rest := rest ++ Y), List.append_assoc]
theorem g1M : (MC s0 s1 handN handD gT gF alE actions alM fiF fiN fiD epN epD goH goN goD plS plP plM plA plBN plBD plLN plLD plR veW veF veP vsF vsN vsD juM juP juTN juTD juO scN scD noF noN noD neF neN neD arP arB arM arU arF arR arL arT arA arS leN leD grN grD arH arLU arGU shN shD stF stN stD rest)[1]? = some s1 := rfl
theorem c_max {d : Nat}  (b_x : -2147483648 ≤ x ∧ x < 2147483648) (b_y : -2147483648 ≤ y ∧ y < 2147483648) : Cg true d m_Math_max [.int (iI x), .int (iI y)] mem (.inl (some (.int (iI (if x < y then y else x))))) mem := by
  refine Cg.of (Nat.le_of_ble_eq_true rfl) ?_
  change Rg _ _ _ _ 0 [(0, .int (iI x)), (1, .int (iI y))] [] _ _ _
  refine Rg.step 1 F_Math_max_0 rfl (fun _ => rfl) ?_
  refine Rg.step 2 F_Math_max_1 rfl (fun _ => rfl) ?_
  refine Rg.icltI 9 5 F_Math_max_2 rfl rfl (by omega) (by omega) (fun h2 => ?_) (fun h2 => ?_)
  · refine Rg.step 10 F_Math_max_9 rfl (fun _ => rfl) ?_
    exact Rg.retI F_Math_max_10 rfl (if_pos h2).symm rfl
  · refine Rg.step 6 F_Math_max_5 rfl (fun _ => rfl) ?_
    refine Rg.step 10 F_Math_max_6 rfl (fun _ => rfl) ?_
    exact Rg.retI F_Math_max_10 rfl (if_neg h2).symm rfl
theorem c_newLen {d : Nat} : Cg true (d + 1) m_ArraysSupport_newLength [.int (iI 10), .int (iI 1), .int (iI 5)] mem (.inl (some (.int (iI 15)))) mem := by
  refine Cg.of (Nat.le_of_ble_eq_true rfl) ?_
  change Rg _ _ _ _ 0 [(0, .int (iI 10)), (1, .int (iI 1)), (2, .int (iI 5))] [] _ _ _
  refine Rg.step 1 F_ArraysSupport_newLength_0 rfl (fun _ => rfl) ?_
  refine Rg.step 2 F_ArraysSupport_newLength_1 rfl (fun _ => rfl) ?_
  refine Rg.step 3 F_ArraysSupport_newLength_2 rfl (fun _ => rfl) ?_
  refine Rg.call 6 F_ArraysSupport_newLength_3 rfl (one_S (by decide +kernel) rM_25_194 (by decide) (by simp) rfl rfl) (Nat.le_of_ble_eq_true rfl) (Cg.any (c_max (by omega) (by omega))) ?_
  refine Rg.addI 7 F_ArraysSupport_newLength_6 rfl ?_
  refine Rg.step 8 F_ArraysSupport_newLength_7 rfl (fun _ => rfl) ?_
  refine Rg.step 9 F_ArraysSupport_newLength_8 rfl (fun _ => rfl) ?_
  refine Rg.step 10 F_ArraysSupport_newLength_9 rfl (fun _ => rfl) ?_
  refine Rg.icgeI 21 13 F_ArraysSupport_newLength_10 rfl rfl (by omega) (by omega) (fun h10 => by omega) (fun _ => ?_)
  refine Rg.step 14 F_ArraysSupport_newLength_13 rfl (fun _ => rfl) ?_
  refine Rg.ldcI (n := 2147483639) 16 F_ArraysSupport_newLength_14 rfl rK_25_200 rfl ?_
  refine Rg.icgtI 21 19 F_ArraysSupport_newLength_16 rfl rfl (by omega) (by omega) (fun h16 => by omega) (fun _ => ?_)
  refine Rg.step 20 F_ArraysSupport_newLength_19 rfl (fun _ => rfl) ?_
  exact Rg.retI F_ArraysSupport_newLength_20 rfl rfl rfl
theorem c_grow2_e {d : Nat} : Cg false (d + 1) m_ArrayList_grow2 [.ref 7, .int (iI 1)] (MC s0 (.inl (.object "java/lang/Object", [])) handN handD gT gF 1 actions alM fiF fiN fiD epN epD goH goN goD plS plP plM plA plBN plBD plLN plLD plR veW veF veP vsF vsN vsD juM juP juTN juTD juO scN scD noF noN noD neF neN neD arP arB arM arU arF arR arL arT arA arS leN leD grN grD arH arLU arGU shN shD stF stN stD rest) (.inl (some (.ref (168 + rest.length)))) (MC s0 (.inl (.object "java/lang/Object", [])) handN handD gT gF (168 + rest.length) actions alM fiF fiN fiD epN epD goH goN goD plS plP plM plA plBN plBD plLN plLD plR veW veF veP vsF vsN vsD juM juP juTN juTD juO scN scD noF noN noD neF neN neD arP arB arM arU arF arR arL arT arA arS leN leD grN grD arH arLU arGU shN shD stF stN stD (rest ++ [.inl (.object "java/lang/Object", List.replicate 10 .null)])) := by
  refine Cg.of (Nat.le_of_ble_eq_true rfl) ?_
  change Rg _ _ _ _ 0 [(0, .ref 7), (1, .int (iI 1))] [] _ _ _
  refine Rg.step 1 F_ArrayList_grow2_0 rfl (fun _ => rfl) ?_
  refine Rg.getf 4 F_ArrayList_grow2_1 rfl rF_6_9 gC_7 rfl ?_
  refine Rg.alen 5 F_ArrayList_grow2_4 rfl g1M ?_
  rw [show ([] : List Value).length.toInt32 = iI 0 from rfl]
  refine Rg.step 6 F_ArrayList_grow2_5 rfl (fun _ => rfl) ?_
  refine Rg.step 7 F_ArrayList_grow2_6 rfl (fun _ => rfl) ?_
  refine Rg.ifgtI 20 10 F_ArrayList_grow2_7 rfl rfl (by omega) (fun h7 => by omega) (fun _ => ?_)
  refine Rg.step 11 F_ArrayList_grow2_10 rfl (fun _ => rfl) ?_
  refine Rg.getf 14 F_ArrayList_grow2_11 rfl rF_6_9 gC_7 rfl ?_
  refine Rg.step 17 F_ArrayList_grow2_14 rfl (fun _ => rfl) ?_
  refine Rg.acmp 45 20 F_ArrayList_grow2_17 rfl rfl (fun _ => ?_) (fun z => by simp [acm] at z)
  refine Rg.step 46 F_ArrayList_grow2_45 rfl (fun _ => rfl) ?_
  refine Rg.bip 48 F_ArrayList_grow2_46 rfl rfl ?_
  refine Rg.step 49 F_ArrayList_grow2_48 rfl (fun _ => rfl) ?_
  refine Rg.call 52 F_ArrayList_grow2_49 rfl (one_S (by decide +kernel) rM_6_79 (by decide) (by simp) rfl rfl) (Nat.le_of_ble_eq_true rfl) (Cg.any (c_max (by omega) (by omega))) ?_
  refine Rg.anew (k := 10) 55 F_ArrayList_grow2_52 rfl rA_6_7 (by decide) (by decide) ?_
  rw [lenM, appM]
  refine Rg.step 56 F_ArrayList_grow2_55 rfl (fun _ => rfl) ?_
  refine Rg.put 59 F_ArrayList_grow2_56 rfl rF_6_9 gC_7 (by decide) (Nat.le_of_ble_eq_true rfl) (Or.inl rfl) rfl sO_alE ?_
  exact Rg.ret F_ArrayList_grow2_59 rfl
theorem c_grow2_c {d : Nat} (h1 : 168 ≤ alE) (h2 : rest[alE - 168]? = some (.inl (.object "java/lang/Object", vs))) (h3 : vs.length = 10) (h4 : vs.all (okE1 (MC s0 s1 handN handD gT gF alE actions alM fiF fiN fiD epN epD goH goN goD plS plP plM plA plBN plBD plLN plLD plR veW veF veP vsF vsN vsD juM juP juTN juTD juO scN scD noF noN noD neF neN neD arP arB arM arU arF arR arL arT arA arS leN leD grN grD arH arLU arGU shN shD stF stN stD rest)) = true) : Cg false (d + 2) m_ArrayList_grow2 [.ref 7, .int (iI 11)] (MC s0 s1 handN handD gT gF alE actions alM fiF fiN fiD epN epD goH goN goD plS plP plM plA plBN plBD plLN plLD plR veW veF veP vsF vsN vsD juM juP juTN juTD juO scN scD noF noN noD neF neN neD arP arB arM arU arF arR arL arT arA arS leN leD grN grD arH arLU arGU shN shD stF stN stD rest) (.inl (some (.ref (168 + rest.length)))) (MC s0 s1 handN handD gT gF (168 + rest.length) actions alM fiF fiN fiD epN epD goH goN goD plS plP plM plA plBN plBD plLN plLD plR veW veF veP vsF vsN vsD juM juP juTN juTD juO scN scD noF noN noD neF neN neD arP arB arM arU arF arR arL arT arA arS leN leD grN grD arH arLU arGU shN shD stF stN stD (rest ++ [.inl (.object "java/lang/Object", vs ++ List.replicate 5 .null)])) := by
  have hE : (MC s0 s1 handN handD gT gF alE actions alM fiF fiN fiD epN epD goH goN goD plS plP plM plA plBN plBD plLN plLD plR veW veF veP vsF vsN vsD juM juP juTN juTD juO scN scD noF noN noD neF neN neD arP arB arM arU arF arR arL arT arA arS leN leD grN grD arH arLU arGU shN shD stF stN stD rest)[alE]? = some (.inl (.object "java/lang/Object", vs)) := by rw [gR' h1]; exact h2
  have hc : Cg false (d + 1) m_Arrays_copyOf [.ref alE, .int (iI 15)] (MC s0 s1 handN handD gT gF alE actions alM fiF fiN fiD epN epD goH goN goD plS plP plM plA plBN plBD plLN plLD plR veW veF veP vsF vsN vsD juM juP juTN juTD juO scN scD noF noN noD neF neN neD arP arB arM arU arF arR arL arT arA arS leN leD grN grD arH arLU arGU shN shD stF stN stD rest) (.inl (some (.ref (168 + rest.length)))) (MC s0 s1 handN handD gT gF alE actions alM fiF fiN fiD epN epD goH goN goD plS plP plM plA plBN plBD plLN plLD plR veW veF veP vsF vsN vsD juM juP juTN juTD juO scN scD noF noN noD neF neN neD arP arB arM arU arF arR arL arT arA arS leN leD grN grD arH arLU arGU shN shD stF stN stD (rest ++ [.inl (.object "java/lang/Object", vs ++ List.replicate 5 .null)])) := by
    have z1 : (iI 15).toNatClampNeg = 15 := by decide
    have := c_copyOf (d := d + 1) (n := iI 15) hE (by decide) (by rw [z1]; omega) (by decide) h4
    rw [z1, h3, lenM, appM] at this
    exact this
  refine Cg.of (Nat.le_of_ble_eq_true rfl) ?_
  change Rg _ _ _ _ 0 [(0, .ref 7), (1, .int (iI 11))] [] _ _ _
  refine Rg.step 1 F_ArrayList_grow2_0 rfl (fun _ => rfl) ?_
  refine Rg.getf 4 F_ArrayList_grow2_1 rfl rF_6_9 gC_7 rfl ?_
  refine Rg.alen 5 F_ArrayList_grow2_4 rfl hE ?_
  rw [h3, show (10 : Nat).toInt32 = iI 10 from rfl]
  refine Rg.step 6 F_ArrayList_grow2_5 rfl (fun _ => rfl) ?_
  refine Rg.step 7 F_ArrayList_grow2_6 rfl (fun _ => rfl) ?_
  refine Rg.ifgtI 20 10 F_ArrayList_grow2_7 rfl rfl (by omega) (fun _ => ?_) (fun h7 => by omega)
  refine Rg.step 21 F_ArrayList_grow2_20 rfl (fun _ => rfl) ?_
  refine Rg.step 22 F_ArrayList_grow2_21 rfl (fun _ => rfl) ?_
  refine Rg.step 23 F_ArrayList_grow2_22 rfl (fun _ => rfl) ?_
  refine Rg.subI 24 F_ArrayList_grow2_23 rfl ?_
  refine Rg.step 25 F_ArrayList_grow2_24 rfl (fun _ => rfl) ?_
  refine Rg.step 26 F_ArrayList_grow2_25 rfl (fun _ => rfl) ?_
  refine Rg.step 27 F_ArrayList_grow2_26 rfl (fun _ => rfl) ?_
  refine Rg.call 30 F_ArrayList_grow2_27 rfl (one_S (by decide +kernel) rM_6_73 (by decide) (by simp) rfl rfl) (Nat.le_of_ble_eq_true rfl) (Cg.any (c_newLen (mem := _))) ?_
  refine Rg.step 31 F_ArrayList_grow2_30 rfl (fun _ => rfl) ?_
  refine Rg.step 32 F_ArrayList_grow2_31 rfl (fun _ => rfl) ?_
  refine Rg.step 33 F_ArrayList_grow2_32 rfl (fun _ => rfl) ?_
  refine Rg.getf 36 F_ArrayList_grow2_33 rfl rF_6_9 gC_7 rfl ?_
  refine Rg.step 37 F_ArrayList_grow2_36 rfl (fun _ => rfl) ?_
  refine Rg.call 40 F_ArrayList_grow2_37 rfl (one_S (by decide +kernel) rM_6_66 (by decide) (by simp) rfl rfl) (Nat.le_of_ble_eq_true rfl) hc ?_
  refine Rg.step 41 F_ArrayList_grow2_40 rfl (fun _ => rfl) ?_
  refine Rg.put 44 F_ArrayList_grow2_41 rfl rF_6_9 gC_7 (by decide) (Nat.le_of_ble_eq_true rfl) (Or.inl rfl) rfl sO_alE ?_
  exact Rg.ret F_ArrayList_grow2_44 rfl
theorem c_grow_e {d : Nat}  : Cg false (d + 2) m_ArrayList_grow [.ref 7] (MC s0 (.inl (.object "java/lang/Object", [])) handN handD gT gF 1 0 alM fiF fiN fiD epN epD goH goN goD plS plP plM plA plBN plBD plLN plLD plR veW veF veP vsF vsN vsD juM juP juTN juTD juO scN scD noF noN noD neF neN neD arP arB arM arU arF arR arL arT arA arS leN leD grN grD arH arLU arGU shN shD stF stN stD rest) (.inl (some (.ref (168 + rest.length)))) (MC s0 (.inl (.object "java/lang/Object", [])) handN handD gT gF (168 + rest.length) 0 alM fiF fiN fiD epN epD goH goN goD plS plP plM plA plBN plBD plLN plLD plR veW veF veP vsF vsN vsD juM juP juTN juTD juO scN scD noF noN noD neF neN neD arP arB arM arU arF arR arL arT arA arS leN leD grN grD arH arLU arGU shN shD stF stN stD (rest ++ [.inl (.object "java/lang/Object", List.replicate 10 .null)])) := by
  refine Cg.of (Nat.le_of_ble_eq_true rfl) ?_
  change Rg _ _ _ _ 0 [(0, .ref 7)] [] _ _ _
  refine Rg.step 1 F_ArrayList_grow_0 rfl (fun _ => rfl) ?_
  refine Rg.step 2 F_ArrayList_grow_1 rfl (fun _ => rfl) ?_
  refine Rg.getf 5 F_ArrayList_grow_2 rfl rF_6_48 gC_7 rfl ?_
  refine Rg.step 6 F_ArrayList_grow_5 rfl (fun _ => rfl) ?_
  refine Rg.addI 7 F_ArrayList_grow_6 rfl ?_
  refine Rg.call 10 F_ArrayList_grow_7 rfl (one_V rM_6_69 (by decide) (by simp) rfl rfl gC_7 rfl) (Nat.le_of_ble_eq_true rfl) (c_grow2_e (actions := 0)) ?_
  exact Rg.ret F_ArrayList_grow_10 rfl
theorem c_grow_c {d : Nat} (h1 : 168 ≤ alE) (h2 : rest[alE - 168]? = some (.inl (.object "java/lang/Object", vs))) (h3 : vs.length = 10) (h4 : vs.all (okE1 (MC s0 s1 handN handD gT gF alE 10 alM fiF fiN fiD epN epD goH goN goD plS plP plM plA plBN plBD plLN plLD plR veW veF veP vsF vsN vsD juM juP juTN juTD juO scN scD noF noN noD neF neN neD arP arB arM arU arF arR arL arT arA arS leN leD grN grD arH arLU arGU shN shD stF stN stD rest)) = true) : Cg false (d + 3) m_ArrayList_grow [.ref 7] (MC s0 s1 handN handD gT gF alE 10 alM fiF fiN fiD epN epD goH goN goD plS plP plM plA plBN plBD plLN plLD plR veW veF veP vsF vsN vsD juM juP juTN juTD juO scN scD noF noN noD neF neN neD arP arB arM arU arF arR arL arT arA arS leN leD grN grD arH arLU arGU shN shD stF stN stD rest) (.inl (some (.ref (168 + rest.length)))) (MC s0 s1 handN handD gT gF (168 + rest.length) 10 alM fiF fiN fiD epN epD goH goN goD plS plP plM plA plBN plBD plLN plLD plR veW veF veP vsF vsN vsD juM juP juTN juTD juO scN scD noF noN noD neF neN neD arP arB arM arU arF arR arL arT arA arS leN leD grN grD arH arLU arGU shN shD stF stN stD (rest ++ [.inl (.object "java/lang/Object", vs ++ List.replicate 5 .null)])) := by
  refine Cg.of (Nat.le_of_ble_eq_true rfl) ?_
  change Rg _ _ _ _ 0 [(0, .ref 7)] [] _ _ _
  refine Rg.step 1 F_ArrayList_grow_0 rfl (fun _ => rfl) ?_
  refine Rg.step 2 F_ArrayList_grow_1 rfl (fun _ => rfl) ?_
  refine Rg.getf 5 F_ArrayList_grow_2 rfl rF_6_48 gC_7 rfl ?_
  refine Rg.step 6 F_ArrayList_grow_5 rfl (fun _ => rfl) ?_
  refine Rg.addI 7 F_ArrayList_grow_6 rfl ?_
  refine Rg.call 10 F_ArrayList_grow_7 rfl (one_V rM_6_69 (by decide) (by simp) rfl rfl gC_7 rfl) (Nat.le_of_ble_eq_true rfl) (c_grow2_c (actions := 10) h1 h2 h3 h4) ?_
  exact Rg.ret F_ArrayList_grow_10 rfl
theorem c_add2_n {d : Nat} (h1 : 168 ≤ alE) (h2 : rest[alE - 168]? = some (.inl (.object "java/lang/Object", vs))) (hv : rest[b - 168]? = some (.inr (1, fs))) (hb : 168 ≤ b) (hk : vs.length = k) (hk2 : actions < k ∧ k ≤ 15) (wA : 0 ≤ actions ∧ actions < 12) : Cg false (d + 4) m_ArrayList_add2 [.ref 7, .ref b, .ref alE, .int (iI actions)] (MC s0 s1 handN handD gT gF alE actions alM fiF fiN fiD epN epD goH goN goD plS plP plM plA plBN plBD plLN plLD plR veW veF veP vsF vsN vsD juM juP juTN juTD juO scN scD noF noN noD neF neN neD arP arB arM arU arF arR arL arT arA arS leN leD grN grD arH arLU arGU shN shD stF stN stD rest) (.inl none) (MC s0 s1 handN handD gT gF alE (actions + 1) alM fiF fiN fiD epN epD goH goN goD plS plP plM plA plBN plBD plLN plLD plR veW veF veP vsF vsN vsD juM juP juTN juTD juO scN scD noF noN noD neF neN neD arP arB arM arU arF arR arL arT arA arS leN leD grN grD arH arLU arGU shN shD stF stN stD (rest.set (alE - 168) (.inl (.object "java/lang/Object", vs.set actions.toNat (.ref b))))) := by
  have hE : (MC s0 s1 handN handD gT gF alE actions alM fiF fiN fiD epN epD goH goN goD plS plP plM plA plBN plBD plLN plLD plR veW veF veP vsF vsN vsD juM juP juTN juTD juO scN scD noF noN noD neF neN neD arP arB arM arU arF arR arL arT arA arS leN leD grN grD arH arLU arGU shN shD stF stN stD rest)[alE]? = some (.inl (.object "java/lang/Object", vs)) := by rw [gR' h1]; exact h2
  have hB : (MC s0 s1 handN handD gT gF alE actions alM fiF fiN fiD epN epD goH goN goD plS plP plM plA plBN plBD plLN plLD plR veW veF veP vsF vsN vsD juM juP juTN juTD juO scN scD noF noN noD neF neN neD arP arB arM arU arF arR arL arT arA arS leN leD grN grD arH arLU arGU shN shD stF stN stD rest)[b]? = some (.inr (1, fs)) := by rw [gR' hb]; exact hv
  have hkk : vs.length.toInt32 = iI (k : Int) := by rw [hk]; rfl
  refine Cg.of (Nat.le_of_ble_eq_true rfl) ?_
  change Rg _ _ _ _ 0 [(0, .ref 7), (1, .ref b), (2, .ref alE), (3, .int (iI actions))] [] _ _ _
  refine Rg.step 1 F_ArrayList_add2_0 rfl (fun _ => rfl) ?_
  refine Rg.step 2 F_ArrayList_add2_1 rfl (fun _ => rfl) ?_
  refine Rg.alen 3 F_ArrayList_add2_2 rfl hE ?_
  rw [hkk]
  refine Rg.icneI 11 6 F_ArrayList_add2_3 rfl rfl (by omega) (by omega) (fun _ => ?_) (fun h3 => by omega)
  refine Rg.step 12 F_ArrayList_add2_11 rfl (fun _ => rfl) ?_
  refine Rg.step 13 F_ArrayList_add2_12 rfl (fun _ => rfl) ?_
  refine Rg.step 14 F_ArrayList_add2_13 rfl (fun _ => rfl) ?_
  refine Rg.aast 15 F_ArrayList_add2_14 rfl hE hB (by omega) (Or.inr ⟨rfl, rfl⟩) (ix_iI (by omega)) (by omega) ?_
  rw [sR' h1]
  refine Rg.step 16 F_ArrayList_add2_15 rfl (fun _ => rfl) ?_
  refine Rg.step 17 F_ArrayList_add2_16 rfl (fun _ => rfl) ?_
  refine Rg.step 18 F_ArrayList_add2_17 rfl (fun _ => rfl) ?_
  refine Rg.addI 19 F_ArrayList_add2_18 rfl ?_
  refine Rg.put 22 F_ArrayList_add2_19 rfl rF_6_48 gC_7 (by decide) (Nat.le_of_ble_eq_true rfl) (Or.inl rfl) rfl sO_alS ?_
  exact Rg.retV F_ArrayList_add2_22 rfl rfl
theorem c_add2_e {d : Nat} (hv : rest[b - 168]? = some (.inr (1, fs))) (hb : 168 ≤ b) (hr : b - 168 < rest.length) : Cg false (d + 4) m_ArrayList_add2 [.ref 7, .ref b, .ref 1, .int (iI 0)] (MC s0 (.inl (.object "java/lang/Object", [])) handN handD gT gF 1 0 alM fiF fiN fiD epN epD goH goN goD plS plP plM plA plBN plBD plLN plLD plR veW veF veP vsF vsN vsD juM juP juTN juTD juO scN scD noF noN noD neF neN neD arP arB arM arU arF arR arL arT arA arS leN leD grN grD arH arLU arGU shN shD stF stN stD rest) (.inl none) (MC s0 (.inl (.object "java/lang/Object", [])) handN handD gT gF (168 + rest.length) 1 alM fiF fiN fiD epN epD goH goN goD plS plP plM plA plBN plBD plLN plLD plR veW veF veP vsF vsN vsD juM juP juTN juTD juO scN scD noF noN noD neF neN neD arP arB arM arU arF arR arL arT arA arS leN leD grN grD arH arLU arGU shN shD stF stN stD (rest ++ [.inl (.object "java/lang/Object", (List.replicate 10 Value.null).set 0 (.ref b))])) := by
  refine Cg.of (Nat.le_of_ble_eq_true rfl) ?_
  change Rg _ _ _ _ 0 [(0, .ref 7), (1, .ref b), (2, .ref 1), (3, .int (iI 0))] [] _ _ _
  refine Rg.step 1 F_ArrayList_add2_0 rfl (fun _ => rfl) ?_
  refine Rg.step 2 F_ArrayList_add2_1 rfl (fun _ => rfl) ?_
  refine Rg.alen 3 F_ArrayList_add2_2 rfl g1M ?_
  rw [show ([] : List Value).length.toInt32 = iI 0 from rfl]
  refine Rg.icneI 11 6 F_ArrayList_add2_3 rfl rfl (by omega) (by omega) (fun h3 => by omega) (fun _ => ?_)
  refine Rg.step 7 F_ArrayList_add2_6 rfl (fun _ => rfl) ?_
  refine Rg.call 10 F_ArrayList_add2_7 rfl (one_V rM_6_129 (by decide) (by simp) rfl rfl gC_7 rfl) (Nat.le_of_ble_eq_true rfl) (c_grow_e (d := d + 1)) ?_
  refine Rg.step 11 F_ArrayList_add2_10 rfl (fun _ => rfl) ?_
  refine Rg.step 12 F_ArrayList_add2_11 rfl (fun _ => rfl) ?_
  refine Rg.step 13 F_ArrayList_add2_12 rfl (fun _ => rfl) ?_
  refine Rg.step 14 F_ArrayList_add2_13 rfl (fun _ => rfl) ?_
  refine Rg.aast (k := 0) 15 F_ArrayList_add2_14 rfl (by rw [gR' (by omega), show 168 + rest.length - 168 = rest.length by omega]; exact gX) (by rw [gR' hb, List.getElem?_append_left hr]; exact hv) (by omega) (Or.inr ⟨rfl, rfl⟩) (by decide) (by decide) ?_
  rw [sR' (by omega), show 168 + rest.length - 168 = rest.length by omega, List.set_append_right _ _ (Nat.le_refl _), Nat.sub_self]
  refine Rg.step 16 F_ArrayList_add2_15 rfl (fun _ => rfl) ?_
  refine Rg.step 17 F_ArrayList_add2_16 rfl (fun _ => rfl) ?_
  refine Rg.step 18 F_ArrayList_add2_17 rfl (fun _ => rfl) ?_
  refine Rg.addI 19 F_ArrayList_add2_18 rfl ?_
  refine Rg.put 22 F_ArrayList_add2_19 rfl rF_6_48 gC_7 (by decide) (Nat.le_of_ble_eq_true rfl) (Or.inl rfl) rfl sO_alS ?_
  exact Rg.retV F_ArrayList_add2_22 rfl rfl
theorem c_add2_c {d : Nat} (h1 : 168 ≤ alE) (h2 : rest[alE - 168]? = some (.inl (.object "java/lang/Object", vs))) (h3 : vs.length = 10) (h4 : vs.all (okE1 (MC s0 s1 handN handD gT gF alE 10 alM fiF fiN fiD epN epD goH goN goD plS plP plM plA plBN plBD plLN plLD plR veW veF veP vsF vsN vsD juM juP juTN juTD juO scN scD noF noN noD neF neN neD arP arB arM arU arF arR arL arT arA arS leN leD grN grD arH arLU arGU shN shD stF stN stD rest)) = true) (hv : rest[b - 168]? = some (.inr (1, fs))) (hb : 168 ≤ b) (hr : b - 168 < rest.length) : Cg false (d + 4) m_ArrayList_add2 [.ref 7, .ref b, .ref alE, .int (iI 10)] (MC s0 s1 handN handD gT gF alE 10 alM fiF fiN fiD epN epD goH goN goD plS plP plM plA plBN plBD plLN plLD plR veW veF veP vsF vsN vsD juM juP juTN juTD juO scN scD noF noN noD neF neN neD arP arB arM arU arF arR arL arT arA arS leN leD grN grD arH arLU arGU shN shD stF stN stD rest) (.inl none) (MC s0 s1 handN handD gT gF (168 + rest.length) 11 alM fiF fiN fiD epN epD goH goN goD plS plP plM plA plBN plBD plLN plLD plR veW veF veP vsF vsN vsD juM juP juTN juTD juO scN scD noF noN noD neF neN neD arP arB arM arU arF arR arL arT arA arS leN leD grN grD arH arLU arGU shN shD stF stN stD (rest ++ [.inl (.object "java/lang/Object", (vs ++ List.replicate 5 Value.null).set 10 (.ref b))])) := by
  have hE : (MC s0 s1 handN handD gT gF alE 10 alM fiF fiN fiD epN epD goH goN goD plS plP plM plA plBN plBD plLN plLD plR veW veF veP vsF vsN vsD juM juP juTN juTD juO scN scD noF noN noD neF neN neD arP arB arM arU arF arR arL arT arA arS leN leD grN grD arH arLU arGU shN shD stF stN stD rest)[alE]? = some (.inl (.object "java/lang/Object", vs)) := by rw [gR' (actions := 10) h1]; exact h2
  refine Cg.of (Nat.le_of_ble_eq_true rfl) ?_
  change Rg _ _ _ _ 0 [(0, .ref 7), (1, .ref b), (2, .ref alE), (3, .int (iI 10))] [] _ _ _
  refine Rg.step 1 F_ArrayList_add2_0 rfl (fun _ => rfl) ?_
  refine Rg.step 2 F_ArrayList_add2_1 rfl (fun _ => rfl) ?_
  refine Rg.alen 3 F_ArrayList_add2_2 rfl hE ?_
  rw [h3, show (10 : Nat).toInt32 = iI 10 from rfl]
  refine Rg.icneI 11 6 F_ArrayList_add2_3 rfl rfl (by omega) (by omega) (fun h3 => by omega) (fun _ => ?_)
  refine Rg.step 7 F_ArrayList_add2_6 rfl (fun _ => rfl) ?_
  refine Rg.call 10 F_ArrayList_add2_7 rfl (one_V rM_6_129 (by decide) (by simp) rfl rfl gC_7 rfl) (Nat.le_of_ble_eq_true rfl) (c_grow_c (d := d) h1 h2 h3 h4) ?_
  refine Rg.step 11 F_ArrayList_add2_10 rfl (fun _ => rfl) ?_
  refine Rg.step 12 F_ArrayList_add2_11 rfl (fun _ => rfl) ?_
  refine Rg.step 13 F_ArrayList_add2_12 rfl (fun _ => rfl) ?_
  refine Rg.step 14 F_ArrayList_add2_13 rfl (fun _ => rfl) ?_
  refine Rg.aast (k := 10) 15 F_ArrayList_add2_14 rfl (by rw [gR' (by omega), show 168 + rest.length - 168 = rest.length by omega]; exact gX) (by rw [gR' hb, List.getElem?_append_left hr]; exact hv) (by omega) (Or.inr ⟨rfl, rfl⟩) (by decide) (by rw [List.length_append, h3]; decide) ?_
  rw [sR' (by omega), show 168 + rest.length - 168 = rest.length by omega, List.set_append_right _ _ (Nat.le_refl _), Nat.sub_self]
  refine Rg.step 16 F_ArrayList_add2_15 rfl (fun _ => rfl) ?_
  refine Rg.step 17 F_ArrayList_add2_16 rfl (fun _ => rfl) ?_
  refine Rg.step 18 F_ArrayList_add2_17 rfl (fun _ => rfl) ?_
  refine Rg.addI 19 F_ArrayList_add2_18 rfl ?_
  refine Rg.put 22 F_ArrayList_add2_19 rfl rF_6_48 gC_7 (by decide) (Nat.le_of_ble_eq_true rfl) (Or.inl rfl) rfl sO_alS ?_
  exact Rg.retV F_ArrayList_add2_22 rfl rfl
end R90
