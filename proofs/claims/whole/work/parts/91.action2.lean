/-! The class: a new action, in the words of the reference. -/
section R91
variable {s0 s1 : AC} {rest mem : AM} {ab : Int → Nat} {b : Nat}
variable {alS alM plS plP veW veF veP juP arP arB arU arF : Int}
variable {handN handD fiN fiD epN epD goH goN goD plA plBN plBD plLN plLD plR vsN vsD juTN juTD juO scN scD noN noD neN neD arR arL arT arA arS leN leD grN grD arLU arGU shN shD : Int → Int}
variable {stN stD : Int → Int → Int}
variable {stF : Int → Int → Prop}
variable {gT gF fiF plM vsF juM noF neF arM arH : Int → Prop}
variable {alE : Nat}
variable {code amountN amountD momentN momentD epsilonN epsilonD actions steps rows tried triedRows unit point judged fault faultPoint outN outD : Int}
variable {firstN firstD wishes wants wantN wantD needs needTime needOf needHow needN needD changes changeTime changeOf changeHow changeN changeD lastOf lastN lastD stepAction startN startD lengthN lengthD row triedAction triedRow times numN numD oldN oldD toldN toldD pointN pointD leastN leastD greatestN greatestD events : Int → Int}
variable {firstFacts facts oldFacts toldFacts gone now : Int → Prop}
variable {a : Int} {vs fs : List Value} {x y : Int} {k : Nat}
theorem c_add_n {d : Nat} (h1 : 168 ≤ alE) (h2 : rest[alE - 168]? = some (.inl (.object "java/lang/Object", vs))) (hv : rest[b - 168]? = some (.inr (1, fs))) (hb : 168 ≤ b) (hk : vs.length = k) (hk2 : actions < k ∧ k ≤ 15) (wA : 0 ≤ actions ∧ actions < 12) : Cg false (d + 5) m_ArrayList_add [.ref 7, .ref b] (MC s0 s1 handN handD gT gF alE actions alM fiF fiN fiD epN epD goH goN goD plS plP plM plA plBN plBD plLN plLD plR veW veF veP vsF vsN vsD juM juP juTN juTD juO scN scD noF noN noD neF neN neD arP arB arM arU arF arR arL arT arA arS leN leD grN grD arH arLU arGU shN shD stF stN stD rest) (.inl (some (.int (iI 1)))) (MC s0 s1 handN handD gT gF alE (actions + 1) (alM + 1) fiF fiN fiD epN epD goH goN goD plS plP plM plA plBN plBD plLN plLD plR veW veF veP vsF vsN vsD juM juP juTN juTD juO scN scD noF noN noD neF neN neD arP arB arM arU arF arR arL arT arA arS leN leD grN grD arH arLU arGU shN shD stF stN stD (rest.set (alE - 168) (.inl (.object "java/lang/Object", vs.set actions.toNat (.ref b))))) := by
  refine Cg.of (Nat.le_of_ble_eq_true rfl) ?_
  change Rg _ _ _ _ 0 [(0, .ref 7), (1, .ref b)] [] _ _ _
  refine Rg.step 1 F_ArrayList_add_0 rfl (fun _ => rfl) ?_
  refine Rg.step 2 F_ArrayList_add_1 rfl (fun _ => rfl) ?_
  refine Rg.getf 5 F_ArrayList_add_2 rfl rF_6_63 gC_7 rfl ?_
  refine Rg.step 6 F_ArrayList_add_5 rfl (fun _ => rfl) ?_
  refine Rg.addI 7 F_ArrayList_add_6 rfl ?_
  refine Rg.put 10 F_ArrayList_add_7 rfl rF_6_63 gC_7 (by decide) (Nat.le_of_ble_eq_true rfl) (Or.inl rfl) rfl sO_alM ?_
  refine Rg.step 11 F_ArrayList_add_10 rfl (fun _ => rfl) ?_
  refine Rg.step 12 F_ArrayList_add_11 rfl (fun _ => rfl) ?_
  refine Rg.step 13 F_ArrayList_add_12 rfl (fun _ => rfl) ?_
  refine Rg.getf 16 F_ArrayList_add_13 rfl rF_6_9 gC_7 rfl ?_
  refine Rg.step 17 F_ArrayList_add_16 rfl (fun _ => rfl) ?_
  refine Rg.getf 20 F_ArrayList_add_17 rfl rF_6_48 gC_7 rfl ?_
  refine Rg.call 23 F_ArrayList_add_20 rfl (one_V rM_6_131 (by decide) (by simp) rfl rfl gC_7 rfl) (Nat.le_of_ble_eq_true rfl) (c_add2_n (d := d) h1 h2 hv hb hk hk2 wA) ?_
  refine Rg.step 24 F_ArrayList_add_23 rfl (fun _ => rfl) ?_
  exact Rg.ret F_ArrayList_add_24 rfl
theorem c_add_e {d : Nat} (hv : rest[b - 168]? = some (.inr (1, fs))) (hb : 168 ≤ b) (hr : b - 168 < rest.length) : Cg false (d + 5) m_ArrayList_add [.ref 7, .ref b] (MC s0 (.inl (.object "java/lang/Object", [])) handN handD gT gF 1 0 alM fiF fiN fiD epN epD goH goN goD plS plP plM plA plBN plBD plLN plLD plR veW veF veP vsF vsN vsD juM juP juTN juTD juO scN scD noF noN noD neF neN neD arP arB arM arU arF arR arL arT arA arS leN leD grN grD arH arLU arGU shN shD stF stN stD rest) (.inl (some (.int (iI 1)))) (MC s0 (.inl (.object "java/lang/Object", [])) handN handD gT gF (168 + rest.length) 1 (alM + 1) fiF fiN fiD epN epD goH goN goD plS plP plM plA plBN plBD plLN plLD plR veW veF veP vsF vsN vsD juM juP juTN juTD juO scN scD noF noN noD neF neN neD arP arB arM arU arF arR arL arT arA arS leN leD grN grD arH arLU arGU shN shD stF stN stD (rest ++ [.inl (.object "java/lang/Object", (List.replicate 10 Value.null).set 0 (.ref b))])) := by
  refine Cg.of (Nat.le_of_ble_eq_true rfl) ?_
  change Rg _ _ _ _ 0 [(0, .ref 7), (1, .ref b)] [] _ _ _
  refine Rg.step 1 F_ArrayList_add_0 rfl (fun _ => rfl) ?_
  refine Rg.step 2 F_ArrayList_add_1 rfl (fun _ => rfl) ?_
  refine Rg.getf 5 F_ArrayList_add_2 rfl rF_6_63 gC_7 rfl ?_
  refine Rg.step 6 F_ArrayList_add_5 rfl (fun _ => rfl) ?_
  refine Rg.addI 7 F_ArrayList_add_6 rfl ?_
  refine Rg.put 10 F_ArrayList_add_7 rfl rF_6_63 gC_7 (by decide) (Nat.le_of_ble_eq_true rfl) (Or.inl rfl) rfl sO_alM ?_
  refine Rg.step 11 F_ArrayList_add_10 rfl (fun _ => rfl) ?_
  refine Rg.step 12 F_ArrayList_add_11 rfl (fun _ => rfl) ?_
  refine Rg.step 13 F_ArrayList_add_12 rfl (fun _ => rfl) ?_
  refine Rg.getf 16 F_ArrayList_add_13 rfl rF_6_9 gC_7 rfl ?_
  refine Rg.step 17 F_ArrayList_add_16 rfl (fun _ => rfl) ?_
  refine Rg.getf 20 F_ArrayList_add_17 rfl rF_6_48 gC_7 rfl ?_
  refine Rg.call 23 F_ArrayList_add_20 rfl (one_V rM_6_131 (by decide) (by simp) rfl rfl gC_7 rfl) (Nat.le_of_ble_eq_true rfl) (c_add2_e (d := d) hv hb hr) ?_
  refine Rg.step 24 F_ArrayList_add_23 rfl (fun _ => rfl) ?_
  exact Rg.ret F_ArrayList_add_24 rfl
theorem c_add_c {d : Nat} (h1 : 168 ≤ alE) (h2 : rest[alE - 168]? = some (.inl (.object "java/lang/Object", vs))) (h3 : vs.length = 10) (h4 : ∀ m : AM, (∀ j, 168 ≤ j → m[j]? = rest[j - 168]?) → vs.all (okE1 m) = true) (hv : rest[b - 168]? = some (.inr (1, fs))) (hb : 168 ≤ b) (hr : b - 168 < rest.length) : Cg false (d + 5) m_ArrayList_add [.ref 7, .ref b] (MC s0 s1 handN handD gT gF alE 10 alM fiF fiN fiD epN epD goH goN goD plS plP plM plA plBN plBD plLN plLD plR veW veF veP vsF vsN vsD juM juP juTN juTD juO scN scD noF noN noD neF neN neD arP arB arM arU arF arR arL arT arA arS leN leD grN grD arH arLU arGU shN shD stF stN stD rest) (.inl (some (.int (iI 1)))) (MC s0 s1 handN handD gT gF (168 + rest.length) 11 (alM + 1) fiF fiN fiD epN epD goH goN goD plS plP plM plA plBN plBD plLN plLD plR veW veF veP vsF vsN vsD juM juP juTN juTD juO scN scD noF noN noD neF neN neD arP arB arM arU arF arR arL arT arA arS leN leD grN grD arH arLU arGU shN shD stF stN stD (rest ++ [.inl (.object "java/lang/Object", (vs ++ List.replicate 5 Value.null).set 10 (.ref b))])) := by
  refine Cg.of (Nat.le_of_ble_eq_true rfl) ?_
  change Rg _ _ _ _ 0 [(0, .ref 7), (1, .ref b)] [] _ _ _
  refine Rg.step 1 F_ArrayList_add_0 rfl (fun _ => rfl) ?_
  refine Rg.step 2 F_ArrayList_add_1 rfl (fun _ => rfl) ?_
  refine Rg.getf 5 F_ArrayList_add_2 rfl rF_6_63 gC_7 rfl ?_
  refine Rg.step 6 F_ArrayList_add_5 rfl (fun _ => rfl) ?_
  refine Rg.addI 7 F_ArrayList_add_6 rfl ?_
  refine Rg.put 10 F_ArrayList_add_7 rfl rF_6_63 gC_7 (by decide) (Nat.le_of_ble_eq_true rfl) (Or.inl rfl) rfl sO_alM ?_
  refine Rg.step 11 F_ArrayList_add_10 rfl (fun _ => rfl) ?_
  refine Rg.step 12 F_ArrayList_add_11 rfl (fun _ => rfl) ?_
  refine Rg.step 13 F_ArrayList_add_12 rfl (fun _ => rfl) ?_
  refine Rg.getf 16 F_ArrayList_add_13 rfl rF_6_9 gC_7 rfl ?_
  refine Rg.step 17 F_ArrayList_add_16 rfl (fun _ => rfl) ?_
  refine Rg.getf 20 F_ArrayList_add_17 rfl rF_6_48 gC_7 rfl ?_
  refine Rg.call 23 F_ArrayList_add_20 rfl (one_V rM_6_131 (by decide) (by simp) rfl rfl gC_7 rfl) (Nat.le_of_ble_eq_true rfl) (c_add2_c (d := d) h1 h2 h3 (h4 _ (fun j hj => gR' (actions := 10) hj)) hv hb hr) ?_
  refine Rg.step 24 F_ArrayList_add_23 rfl (fun _ => rfl) ?_
  exact Rg.ret F_ArrayList_add_24 rfl
theorem r_action_n {d : Nat} (h1 : 168 ≤ alE) (h2 : rest[alE - 168]? = some (.inl (.object "java/lang/Object", vs))) (h4 : 168 ≤ alE → alE - 168 < rest.length) (hk : vs.length = k) (hk2 : actions < k ∧ k ≤ 15) (wA : 0 ≤ actions ∧ actions < 12) : Cg false (d + 6) m_PJ_action [.ref 2] (MC s0 s1 handN handD gT gF alE actions alM fiF fiN fiD epN epD goH goN goD plS plP plM plA plBN plBD plLN plLD plR veW veF veP vsF vsN vsD juM juP juTN juTD juO scN scD noF noN noD neF neN neD arP arB arM arU arF arR arL arT arA arS leN leD grN grD arH arLU arGU shN shD stF stN stD rest) (.inl (some (.int (iI actions)))) (MC s0 s1 handN handD gT gF alE (actions + 1) (alM + 1) fiF fiN fiD epN epD goH goN goD plS plP plM plA plBN plBD plLN plLD plR veW veF veP vsF vsN vsD juM juP juTN juTD juO scN scD noF noN noD neF neN neD arP arB arM arU arF arR arL arT arA arS leN leD grN grD arH arLU arGU shN shD stF stN stD ((rest ++ (actL (168 + rest.length) 0 0 (fun _ => False) (fun _ _ => False) (fun _ _ => False) 0 (fun _ => 0) (fun _ => 0) (fun _ => 0) (fun _ => 0) (fun _ => 1) (fun _ _ => False) (fun _ _ => False) 0 (fun _ => 0) (fun _ => 0) (fun _ => 0) (fun _ => 0) (fun _ => 1) (fun _ _ => False) (fun _ _ => False) (fun _ => -2) (fun _ => 0) (fun _ => 1))).set (alE - 168) (.inl (.object "java/lang/Object", vs.set actions.toNat (.ref (168 + rest.length)))))) := by
  have hl : (rest ++ (actL (168 + rest.length) 0 0 (fun _ => False) (fun _ _ => False) (fun _ _ => False) 0 (fun _ => 0) (fun _ => 0) (fun _ => 0) (fun _ => 0) (fun _ => 1) (fun _ _ => False) (fun _ _ => False) 0 (fun _ => 0) (fun _ => 0) (fun _ => 0) (fun _ => 0) (fun _ => 1) (fun _ _ => False) (fun _ _ => False) (fun _ => -2) (fun _ => 0) (fun _ => 1))).length = rest.length + 25 := by rw [List.length_append]; rfl
  obtain ⟨fs, hv⟩ : ∃ fs, (rest ++ (actL (168 + rest.length) 0 0 (fun _ => False) (fun _ _ => False) (fun _ _ => False) 0 (fun _ => 0) (fun _ => 0) (fun _ => 0) (fun _ => 0) (fun _ => 1) (fun _ _ => False) (fun _ _ => False) 0 (fun _ => 0) (fun _ => 0) (fun _ => 0) (fun _ => 0) (fun _ => 1) (fun _ _ => False) (fun _ _ => False) (fun _ => -2) (fun _ => 0) (fun _ => 1)))[168 + rest.length - 168]? = some (.inr (1, fs)) := ⟨_, by
    rw [show 168 + rest.length - 168 = rest.length by omega, List.getElem?_append_right (Nat.le_refl _), Nat.sub_self]
    rfl⟩
  have h2r : (rest ++ (actL (168 + rest.length) 0 0 (fun _ => False) (fun _ _ => False) (fun _ _ => False) 0 (fun _ => 0) (fun _ => 0) (fun _ => 0) (fun _ => 0) (fun _ => 1) (fun _ _ => False) (fun _ _ => False) 0 (fun _ => 0) (fun _ => 0) (fun _ => 0) (fun _ => 0) (fun _ => 1) (fun _ _ => False) (fun _ _ => False) (fun _ => -2) (fun _ => 0) (fun _ => 1)))[alE - 168]? = some (.inl (.object "java/lang/Object", vs)) := by
    rw [List.getElem?_append_left (List.getElem?_eq_some_iff.mp h2).1]
    exact h2
  refine Cg.of (Nat.le_of_ble_eq_true rfl) ?_
  change Rg _ _ _ _ 0 [(0, .ref 2)] [] _ _ _
  refine Rg.step 1 F_PJ_action_0 rfl (fun _ => rfl) ?_
  refine Rg.getf 4 F_PJ_action_1 rfl rF_1_21 gC_2 rfl ?_
  refine Rg.getf 7 F_PJ_action_4 rfl rF_1_105 gC_6 rfl ?_
  refine Rg.call 10 F_PJ_action_7 rfl (one_V rM_1_109 (by decide) (by simp) rfl rfl gC_7 rfl) (Nat.le_of_ble_eq_true rfl) (Cg.any c_list_size) ?_
  refine Rg.bip 12 F_PJ_action_10 rfl rfl ?_
  refine Rg.call 15 F_PJ_action_12 rfl (one_S (by decide +kernel) rM_1_115 (by decide) (by simp) rfl rfl) (Nat.le_of_ble_eq_true rfl) (Cg.any (c_room_ok (by omega) (by omega) (by omega))) ?_
  refine Rg.step 16 F_PJ_action_15 rfl (fun _ => rfl) ?_
  refine Rg.getf 19 F_PJ_action_16 rfl rF_1_21 gC_2 rfl ?_
  refine Rg.getf 22 F_PJ_action_19 rfl rF_1_105 gC_6 rfl ?_
  refine Rg.new 25 F_PJ_action_22 rfl rC_1_118 rfl rfl (by decide) rfl ?_
  refine Rg.step 26 F_PJ_action_25 rfl (fun _ => rfl) ?_
  refine Rg.call 29 F_PJ_action_26 rfl (one_I (by decide +kernel) rM_1_120 (by decide) (by simp) rfl rfl) (Nat.le_of_ble_eq_true rfl) (c_Ac_init rfl (by rw [lenM]; omega)) ?_
  rw [lenM, appM]
  refine Rg.call 32 F_PJ_action_29 rfl (one_V rM_1_121 (by decide) (by simp) rfl rfl gC_7 rfl) (Nat.le_of_ble_eq_true rfl) (c_add_n (d := d) (rest := (rest ++ (actL (168 + rest.length) 0 0 (fun _ => False) (fun _ _ => False) (fun _ _ => False) 0 (fun _ => 0) (fun _ => 0) (fun _ => 0) (fun _ => 0) (fun _ => 1) (fun _ _ => False) (fun _ _ => False) 0 (fun _ => 0) (fun _ => 0) (fun _ => 0) (fun _ => 0) (fun _ => 1) (fun _ _ => False) (fun _ _ => False) (fun _ => -2) (fun _ => 0) (fun _ => 1)))) (b := 168 + rest.length) h1 h2r hv (by omega) hk hk2 wA) ?_
  refine Rg.step 33 F_PJ_action_32 rfl (fun _ => rfl) ?_
  refine Rg.step 34 F_PJ_action_33 rfl (fun _ => rfl) ?_
  refine Rg.getf 37 F_PJ_action_34 rfl rF_1_21 gC_2 rfl ?_
  refine Rg.getf 40 F_PJ_action_37 rfl rF_1_105 gC_6 rfl ?_
  refine Rg.call 43 F_PJ_action_40 rfl (one_V rM_1_109 (by decide) (by simp) rfl rfl gC_7 rfl) (Nat.le_of_ble_eq_true rfl) (Cg.any c_list_size) ?_
  refine Rg.step 44 F_PJ_action_43 rfl (fun _ => rfl) ?_
  refine Rg.subI 45 F_PJ_action_44 rfl ?_
  exact Rg.retI F_PJ_action_45 rfl (by omega) rfl
theorem r_action_e {d : Nat}  : Cg false (d + 6) m_PJ_action [.ref 2] (MC s0 (.inl (.object "java/lang/Object", [])) handN handD gT gF 1 0 alM fiF fiN fiD epN epD goH goN goD plS plP plM plA plBN plBD plLN plLD plR veW veF veP vsF vsN vsD juM juP juTN juTD juO scN scD noF noN noD neF neN neD arP arB arM arU arF arR arL arT arA arS leN leD grN grD arH arLU arGU shN shD stF stN stD rest) (.inl (some (.int (iI 0)))) (MC s0 (.inl (.object "java/lang/Object", [])) handN handD gT gF (168 + (rest ++ (actL (168 + rest.length) 0 0 (fun _ => False) (fun _ _ => False) (fun _ _ => False) 0 (fun _ => 0) (fun _ => 0) (fun _ => 0) (fun _ => 0) (fun _ => 1) (fun _ _ => False) (fun _ _ => False) 0 (fun _ => 0) (fun _ => 0) (fun _ => 0) (fun _ => 0) (fun _ => 1) (fun _ _ => False) (fun _ _ => False) (fun _ => -2) (fun _ => 0) (fun _ => 1))).length) 1 (alM + 1) fiF fiN fiD epN epD goH goN goD plS plP plM plA plBN plBD plLN plLD plR veW veF veP vsF vsN vsD juM juP juTN juTD juO scN scD noF noN noD neF neN neD arP arB arM arU arF arR arL arT arA arS leN leD grN grD arH arLU arGU shN shD stF stN stD ((rest ++ (actL (168 + rest.length) 0 0 (fun _ => False) (fun _ _ => False) (fun _ _ => False) 0 (fun _ => 0) (fun _ => 0) (fun _ => 0) (fun _ => 0) (fun _ => 1) (fun _ _ => False) (fun _ _ => False) 0 (fun _ => 0) (fun _ => 0) (fun _ => 0) (fun _ => 0) (fun _ => 1) (fun _ _ => False) (fun _ _ => False) (fun _ => -2) (fun _ => 0) (fun _ => 1))) ++ [.inl (.object "java/lang/Object", (List.replicate 10 Value.null).set 0 (.ref (168 + rest.length)))])) := by
  have hl : (rest ++ (actL (168 + rest.length) 0 0 (fun _ => False) (fun _ _ => False) (fun _ _ => False) 0 (fun _ => 0) (fun _ => 0) (fun _ => 0) (fun _ => 0) (fun _ => 1) (fun _ _ => False) (fun _ _ => False) 0 (fun _ => 0) (fun _ => 0) (fun _ => 0) (fun _ => 0) (fun _ => 1) (fun _ _ => False) (fun _ _ => False) (fun _ => -2) (fun _ => 0) (fun _ => 1))).length = rest.length + 25 := by rw [List.length_append]; rfl
  obtain ⟨fs, hv⟩ : ∃ fs, (rest ++ (actL (168 + rest.length) 0 0 (fun _ => False) (fun _ _ => False) (fun _ _ => False) 0 (fun _ => 0) (fun _ => 0) (fun _ => 0) (fun _ => 0) (fun _ => 1) (fun _ _ => False) (fun _ _ => False) 0 (fun _ => 0) (fun _ => 0) (fun _ => 0) (fun _ => 0) (fun _ => 1) (fun _ _ => False) (fun _ _ => False) (fun _ => -2) (fun _ => 0) (fun _ => 1)))[168 + rest.length - 168]? = some (.inr (1, fs)) := ⟨_, by
    rw [show 168 + rest.length - 168 = rest.length by omega, List.getElem?_append_right (Nat.le_refl _), Nat.sub_self]
    rfl⟩
  refine Cg.of (Nat.le_of_ble_eq_true rfl) ?_
  change Rg _ _ _ _ 0 [(0, .ref 2)] [] _ _ _
  refine Rg.step 1 F_PJ_action_0 rfl (fun _ => rfl) ?_
  refine Rg.getf 4 F_PJ_action_1 rfl rF_1_21 gC_2 rfl ?_
  refine Rg.getf 7 F_PJ_action_4 rfl rF_1_105 gC_6 rfl ?_
  refine Rg.call 10 F_PJ_action_7 rfl (one_V rM_1_109 (by decide) (by simp) rfl rfl gC_7 rfl) (Nat.le_of_ble_eq_true rfl) (Cg.any c_list_size) ?_
  refine Rg.bip 12 F_PJ_action_10 rfl rfl ?_
  refine Rg.call 15 F_PJ_action_12 rfl (one_S (by decide +kernel) rM_1_115 (by decide) (by simp) rfl rfl) (Nat.le_of_ble_eq_true rfl) (Cg.any (c_room_ok (by omega) (by omega) (by omega))) ?_
  refine Rg.step 16 F_PJ_action_15 rfl (fun _ => rfl) ?_
  refine Rg.getf 19 F_PJ_action_16 rfl rF_1_21 gC_2 rfl ?_
  refine Rg.getf 22 F_PJ_action_19 rfl rF_1_105 gC_6 rfl ?_
  refine Rg.new 25 F_PJ_action_22 rfl rC_1_118 rfl rfl (by decide) rfl ?_
  refine Rg.step 26 F_PJ_action_25 rfl (fun _ => rfl) ?_
  refine Rg.call 29 F_PJ_action_26 rfl (one_I (by decide +kernel) rM_1_120 (by decide) (by simp) rfl rfl) (Nat.le_of_ble_eq_true rfl) (c_Ac_init rfl (by rw [lenM]; omega)) ?_
  rw [lenM, appM]
  refine Rg.call 32 F_PJ_action_29 rfl (one_V rM_1_121 (by decide) (by simp) rfl rfl gC_7 rfl) (Nat.le_of_ble_eq_true rfl) (c_add_e (d := d) (rest := (rest ++ (actL (168 + rest.length) 0 0 (fun _ => False) (fun _ _ => False) (fun _ _ => False) 0 (fun _ => 0) (fun _ => 0) (fun _ => 0) (fun _ => 0) (fun _ => 1) (fun _ _ => False) (fun _ _ => False) 0 (fun _ => 0) (fun _ => 0) (fun _ => 0) (fun _ => 0) (fun _ => 1) (fun _ _ => False) (fun _ _ => False) (fun _ => -2) (fun _ => 0) (fun _ => 1)))) (b := 168 + rest.length) hv (by omega) (by rw [hl]; omega)) ?_
  refine Rg.step 33 F_PJ_action_32 rfl (fun _ => rfl) ?_
  refine Rg.step 34 F_PJ_action_33 rfl (fun _ => rfl) ?_
  refine Rg.getf 37 F_PJ_action_34 rfl rF_1_21 gC_2 rfl ?_
  refine Rg.getf 40 F_PJ_action_37 rfl rF_1_105 gC_6 rfl ?_
  refine Rg.call 43 F_PJ_action_40 rfl (one_V rM_1_109 (by decide) (by simp) rfl rfl gC_7 rfl) (Nat.le_of_ble_eq_true rfl) (Cg.any c_list_size) ?_
  refine Rg.step 44 F_PJ_action_43 rfl (fun _ => rfl) ?_
  refine Rg.subI 45 F_PJ_action_44 rfl ?_
  exact Rg.retI F_PJ_action_45 rfl (by omega) rfl
theorem r_action_c {d : Nat} (h1 : 168 ≤ alE) (h2 : rest[alE - 168]? = some (.inl (.object "java/lang/Object", vs))) (h3 : vs.length = 10) (h4 : ∀ m : AM, (∀ j, 168 ≤ j → m[j]? = (rest ++ (actL (168 + rest.length) 0 0 (fun _ => False) (fun _ _ => False) (fun _ _ => False) 0 (fun _ => 0) (fun _ => 0) (fun _ => 0) (fun _ => 0) (fun _ => 1) (fun _ _ => False) (fun _ _ => False) 0 (fun _ => 0) (fun _ => 0) (fun _ => 0) (fun _ => 0) (fun _ => 1) (fun _ _ => False) (fun _ _ => False) (fun _ => -2) (fun _ => 0) (fun _ => 1)))[j - 168]?) → vs.all (okE1 m) = true) : Cg false (d + 6) m_PJ_action [.ref 2] (MC s0 s1 handN handD gT gF alE 10 alM fiF fiN fiD epN epD goH goN goD plS plP plM plA plBN plBD plLN plLD plR veW veF veP vsF vsN vsD juM juP juTN juTD juO scN scD noF noN noD neF neN neD arP arB arM arU arF arR arL arT arA arS leN leD grN grD arH arLU arGU shN shD stF stN stD rest) (.inl (some (.int (iI 10)))) (MC s0 s1 handN handD gT gF (168 + (rest ++ (actL (168 + rest.length) 0 0 (fun _ => False) (fun _ _ => False) (fun _ _ => False) 0 (fun _ => 0) (fun _ => 0) (fun _ => 0) (fun _ => 0) (fun _ => 1) (fun _ _ => False) (fun _ _ => False) 0 (fun _ => 0) (fun _ => 0) (fun _ => 0) (fun _ => 0) (fun _ => 1) (fun _ _ => False) (fun _ _ => False) (fun _ => -2) (fun _ => 0) (fun _ => 1))).length) 11 (alM + 1) fiF fiN fiD epN epD goH goN goD plS plP plM plA plBN plBD plLN plLD plR veW veF veP vsF vsN vsD juM juP juTN juTD juO scN scD noF noN noD neF neN neD arP arB arM arU arF arR arL arT arA arS leN leD grN grD arH arLU arGU shN shD stF stN stD ((rest ++ (actL (168 + rest.length) 0 0 (fun _ => False) (fun _ _ => False) (fun _ _ => False) 0 (fun _ => 0) (fun _ => 0) (fun _ => 0) (fun _ => 0) (fun _ => 1) (fun _ _ => False) (fun _ _ => False) 0 (fun _ => 0) (fun _ => 0) (fun _ => 0) (fun _ => 0) (fun _ => 1) (fun _ _ => False) (fun _ _ => False) (fun _ => -2) (fun _ => 0) (fun _ => 1))) ++ [.inl (.object "java/lang/Object", (vs ++ List.replicate 5 Value.null).set 10 (.ref (168 + rest.length)))])) := by
  have hl : (rest ++ (actL (168 + rest.length) 0 0 (fun _ => False) (fun _ _ => False) (fun _ _ => False) 0 (fun _ => 0) (fun _ => 0) (fun _ => 0) (fun _ => 0) (fun _ => 1) (fun _ _ => False) (fun _ _ => False) 0 (fun _ => 0) (fun _ => 0) (fun _ => 0) (fun _ => 0) (fun _ => 1) (fun _ _ => False) (fun _ _ => False) (fun _ => -2) (fun _ => 0) (fun _ => 1))).length = rest.length + 25 := by rw [List.length_append]; rfl
  obtain ⟨fs, hv⟩ : ∃ fs, (rest ++ (actL (168 + rest.length) 0 0 (fun _ => False) (fun _ _ => False) (fun _ _ => False) 0 (fun _ => 0) (fun _ => 0) (fun _ => 0) (fun _ => 0) (fun _ => 1) (fun _ _ => False) (fun _ _ => False) 0 (fun _ => 0) (fun _ => 0) (fun _ => 0) (fun _ => 0) (fun _ => 1) (fun _ _ => False) (fun _ _ => False) (fun _ => -2) (fun _ => 0) (fun _ => 1)))[168 + rest.length - 168]? = some (.inr (1, fs)) := ⟨_, by
    rw [show 168 + rest.length - 168 = rest.length by omega, List.getElem?_append_right (Nat.le_refl _), Nat.sub_self]
    rfl⟩
  have h2r : (rest ++ (actL (168 + rest.length) 0 0 (fun _ => False) (fun _ _ => False) (fun _ _ => False) 0 (fun _ => 0) (fun _ => 0) (fun _ => 0) (fun _ => 0) (fun _ => 1) (fun _ _ => False) (fun _ _ => False) 0 (fun _ => 0) (fun _ => 0) (fun _ => 0) (fun _ => 0) (fun _ => 1) (fun _ _ => False) (fun _ _ => False) (fun _ => -2) (fun _ => 0) (fun _ => 1)))[alE - 168]? = some (.inl (.object "java/lang/Object", vs)) := by
    rw [List.getElem?_append_left (List.getElem?_eq_some_iff.mp h2).1]
    exact h2
  refine Cg.of (Nat.le_of_ble_eq_true rfl) ?_
  change Rg _ _ _ _ 0 [(0, .ref 2)] [] _ _ _
  refine Rg.step 1 F_PJ_action_0 rfl (fun _ => rfl) ?_
  refine Rg.getf 4 F_PJ_action_1 rfl rF_1_21 gC_2 rfl ?_
  refine Rg.getf 7 F_PJ_action_4 rfl rF_1_105 gC_6 rfl ?_
  refine Rg.call 10 F_PJ_action_7 rfl (one_V rM_1_109 (by decide) (by simp) rfl rfl gC_7 rfl) (Nat.le_of_ble_eq_true rfl) (Cg.any c_list_size) ?_
  refine Rg.bip 12 F_PJ_action_10 rfl rfl ?_
  refine Rg.call 15 F_PJ_action_12 rfl (one_S (by decide +kernel) rM_1_115 (by decide) (by simp) rfl rfl) (Nat.le_of_ble_eq_true rfl) (Cg.any (c_room_ok (by omega) (by omega) (by omega))) ?_
  refine Rg.step 16 F_PJ_action_15 rfl (fun _ => rfl) ?_
  refine Rg.getf 19 F_PJ_action_16 rfl rF_1_21 gC_2 rfl ?_
  refine Rg.getf 22 F_PJ_action_19 rfl rF_1_105 gC_6 rfl ?_
  refine Rg.new 25 F_PJ_action_22 rfl rC_1_118 rfl rfl (by decide) rfl ?_
  refine Rg.step 26 F_PJ_action_25 rfl (fun _ => rfl) ?_
  refine Rg.call 29 F_PJ_action_26 rfl (one_I (by decide +kernel) rM_1_120 (by decide) (by simp) rfl rfl) (Nat.le_of_ble_eq_true rfl) (c_Ac_init rfl (by rw [lenM]; omega)) ?_
  rw [lenM, appM]
  refine Rg.call 32 F_PJ_action_29 rfl (one_V rM_1_121 (by decide) (by simp) rfl rfl gC_7 rfl) (Nat.le_of_ble_eq_true rfl) (c_add_c (d := d) (rest := (rest ++ (actL (168 + rest.length) 0 0 (fun _ => False) (fun _ _ => False) (fun _ _ => False) 0 (fun _ => 0) (fun _ => 0) (fun _ => 0) (fun _ => 0) (fun _ => 1) (fun _ _ => False) (fun _ _ => False) 0 (fun _ => 0) (fun _ => 0) (fun _ => 0) (fun _ => 0) (fun _ => 1) (fun _ _ => False) (fun _ _ => False) (fun _ => -2) (fun _ => 0) (fun _ => 1)))) (b := 168 + rest.length) h1 h2r h3 h4 hv (by omega) (by rw [hl]; omega)) ?_
  refine Rg.step 33 F_PJ_action_32 rfl (fun _ => rfl) ?_
  refine Rg.step 34 F_PJ_action_33 rfl (fun _ => rfl) ?_
  refine Rg.getf 37 F_PJ_action_34 rfl rF_1_21 gC_2 rfl ?_
  refine Rg.getf 40 F_PJ_action_37 rfl rF_1_105 gC_6 rfl ?_
  refine Rg.call 43 F_PJ_action_40 rfl (one_V rM_1_109 (by decide) (by simp) rfl rfl gC_7 rfl) (Nat.le_of_ble_eq_true rfl) (Cg.any c_list_size) ?_
  refine Rg.step 44 F_PJ_action_43 rfl (fun _ => rfl) ?_
  refine Rg.subI 45 F_PJ_action_44 rfl ?_
  exact Rg.retI F_PJ_action_45 rfl (by omega) rfl
theorem c_PJ_action1 {d : Nat} (h : actions = 12) : Cg true (d + 1) m_PJ_action [.ref 2] (MC s0 s1 handN handD gT gF alE actions alM fiF fiN fiD epN epD goH goN goD plS plP plM plA plBN plBD plLN plLD plR veW veF veP vsF vsN vsD juM juP juTN juTD juO scN scD noF noN noD neF neN neD arP arB arM arU arF arR arL arT arA arS leN leD grN grD arH arLU arGU shN shD stF stN stD rest) (.inr (MC s0 s1 handN handD gT gF alE actions alM fiF fiN fiD epN epD goH goN goD plS plP plM plA plBN plBD plLN plLD plR veW veF veP vsF vsN vsD juM juP juTN juTD juO scN scD noF noN noD neF neN neD arP arB arM arU arF arR arL arT arA arS leN leD grN grD arH arLU arGU shN shD stF stN stD rest).length) ((MC s0 s1 handN handD gT gF alE actions alM fiF fiN fiD epN epD goH goN goD plS plP plM plA plBN plBD plLN plLD plR veW veF veP vsF vsN vsD juM juP juTN juTD juO scN scD noF noN noD neF neN neD arP arB arM arU arF arR arL arT arA arS leN leD grN grD arH arLU arGU shN shD stF stN stD rest) ++ [.inr (14, [])]) := by
  refine Cg.of (Nat.le_of_ble_eq_true rfl) ?_
  change Rg _ _ _ _ 0 [(0, .ref 2)] [] _ _ _
  refine Rg.step 1 F_PJ_action_0 rfl (fun _ => rfl) ?_
  refine Rg.getf 4 F_PJ_action_1 rfl rF_1_21 gC_2 rfl ?_
  refine Rg.getf 7 F_PJ_action_4 rfl rF_1_105 gC_6 rfl ?_
  refine Rg.call 10 F_PJ_action_7 rfl (one_V rM_1_109 (by decide) (by simp) rfl rfl gC_7 rfl) (Nat.le_of_ble_eq_true rfl) (Cg.any c_list_size) ?_
  refine Rg.bip 12 F_PJ_action_10 rfl rfl ?_
  exact Rg.callT F_PJ_action_12 (one_S (by decide +kernel) rM_1_115 (by decide) (by simp) rfl rfl) (Nat.le_of_ble_eq_true rfl) (c_room_no (by omega) (by omega) (by omega)) gX rfl
def ALI (rest : AM) (alE : Nat) (actions : Int) : Prop := (actions = 0 ∧ alE = 1) ∨ (0 < actions ∧ 219 ≤ alE ∧ ∃ vs, rest[alE - 168]? = some (.inl (.object "java/lang/Object", vs)) ∧ (vs.length : Int) = if actions ≤ 10 then 10 else 15)
theorem acts_new {rest1 : AM} {alE1 : Nat} {us : List Value} (hO : ActsOK needs needTime needOf needHow needN needD changes changeTime changeOf changeHow changeN changeD lastOf lastN lastD rest alE actions ab) (wA : 0 ≤ actions ∧ actions < 12) (h51 : 51 ≤ rest.length) (hE : 168 ≤ alE1) (h1 : ∀ j, j < rest.length → (0 < actions → ¬ j = alE - 168) → rest1[j]? = rest[j]?) (h2 : rest1[alE1 - 168]? = some (.inl (.object "java/lang/Object", us))) (h3 : ∀ x, 0 ≤ x → x < actions → us[x.toNat]? = some (.ref (ab x))) (h4 : us[actions.toNat]? = some (.ref (168 + rest.length))) (h5 : ∀ i, i < 25 → rest1[rest.length + i]? = (actL (168 + rest.length) 0 0 (fun _ => False) (fun _ _ => False) (fun _ _ => False) 0 (fun _ => 0) (fun _ => 0) (fun _ => 0) (fun _ => 0) (fun _ => 1) (fun _ _ => False) (fun _ _ => False) 0 (fun _ => 0) (fun _ => 0) (fun _ => 0) (fun _ => 0) (fun _ => 1) (fun _ _ => False) (fun _ _ => False) (fun _ => -2) (fun _ => 0) (fun _ => 1))[i]?) : ActsOK (up1 needs actions 0) needTime needOf needHow needN needD (up1 changes actions 0) changeTime changeOf changeHow changeN changeD (up1 (up1 lastOf (2 * actions) (-2)) (2 * actions + 1) (-2)) lastN lastD rest1 alE1 (actions + 1) (up1 ab actions (168 + rest.length)) := by
  intro x x1 x2
  by_cases ex : x = actions
  · subst ex
    rw [up1_eq]
    refine ⟨⟨hE, us, h2, h4⟩, by omega, 0, 0, (fun _ => False), (fun _ _ => False), (fun _ _ => False), 0, (fun _ => 0), (fun _ => 0), (fun _ => 0), (fun _ => 0), (fun _ => 1), (fun _ _ => False), (fun _ _ => False), 0, (fun _ => 0), (fun _ => 0), (fun _ => 0), (fun _ => 0), (fun _ => 1), (fun _ _ => False), (fun _ _ => False), (fun _ => -2), (fun _ => 0), (fun _ => 1), fun i hi => ?_, rel_new (by rw [up1_eq]) (by rw [up1_eq]) (by rw [up1_ne _ _ (by omega), up1_eq]) (by rw [up1_eq])⟩
    rw [show 168 + rest.length - 168 + i = rest.length + i by omega]
    exact h5 i hi
  · rw [up1_ne _ _ ex]
    obtain ⟨⟨a1, vs, a2, a3⟩, a4, nd8, ch8, me8, nT8, nF8, cs8, cT8, cO8, cH8, cN8, cD8, mT8, mF8, as8, aT8, aO8, aH8, aN8, aD8, cG8, sA8, dO8, dN8, dD8, a5, a6⟩ := hO x x1 (by omega)
    refine ⟨⟨hE, us, h2, h3 x x1 (by omega)⟩, a4, nd8, ch8, me8, nT8, nF8, cs8, cT8, cO8, cH8, cN8, cD8, mT8, mF8, as8, aT8, aO8, aH8, aN8, aD8, cG8, sA8, dO8, dN8, dD8, fun i hi => ?_, ?_⟩
    · have hlt : ab x - 168 + i < rest.length := by
        have := a5 i hi
        rw [List.getElem?_eq_getElem (l := actL _ nd8 ch8 me8 nT8 nF8 cs8 cT8 cO8 cH8 cN8 cD8 mT8 mF8 as8 aT8 aO8 aH8 aN8 aD8 cG8 sA8 dO8 dN8 dD8) (show i < 25 from hi)] at this
        exact (List.getElem?_eq_some_iff.mp this).1
      rw [h1 _ hlt (fun _ z => ?_)]
      · exact a5 i hi
      · have := a5 i hi
        rw [z, a2] at this
        exact actL_no this.symm
    · refine rel_congr a6 (up1_ne _ _ ex) (fun k _ => ⟨rfl, rfl, rfl, rfl, rfl⟩) (up1_ne _ _ ex) (fun k _ => ⟨rfl, rfl, rfl, rfl, rfl⟩) (fun k hk => ⟨?_, rfl, rfl⟩)
      rw [up1_ne _ _ (by omega), up1_ne _ _ (by omega)]
theorem c_PJ_action {d : Nat} (hO : ActsOK needs needTime needOf needHow needN needD changes changeTime changeOf changeHow changeN changeD lastOf lastN lastD rest alE actions ab) (hD : ∀ x y, 0 ≤ x → x < y → y < actions → ab x + 25 ≤ ab y) (hL : ALI rest alE actions) (wA : 0 ≤ actions ∧ actions < 12) (h51 : 51 ≤ rest.length) : ∃ (rest1 : AM) (alE1 : Nat), ActsOK (up1 needs actions 0) needTime needOf needHow needN needD (up1 changes actions 0) changeTime changeOf changeHow changeN changeD (up1 (up1 lastOf (2 * actions) (-2)) (2 * actions + 1) (-2)) lastN lastD rest1 alE1 (actions + 1) (up1 ab actions (168 + rest.length)) ∧ ALI rest1 alE1 (actions + 1) ∧ (∀ x y, 0 ≤ x → x < y → y < actions + 1 → (up1 ab actions (168 + rest.length)) x + 25 ≤ (up1 ab actions (168 + rest.length)) y) ∧ rest1.length ≤ rest.length + 26 ∧ 51 ≤ rest1.length ∧ rest1.take 51 = rest.take 51 ∧ Cg false (d + 6) m_PJ_action [.ref 2] (MC s0 (.inl (.object "java/lang/Object", [])) handN handD gT gF alE actions alM fiF fiN fiD epN epD goH goN goD plS plP plM plA plBN plBD plLN plLD plR veW veF veP vsF vsN vsD juM juP juTN juTD juO scN scD noF noN noD neF neN neD arP arB arM arU arF arR arL arT arA arS leN leD grN grD arH arLU arGU shN shD stF stN stD rest) (.inl (some (.int (iI actions)))) (MC s0 (.inl (.object "java/lang/Object", [])) handN handD gT gF alE1 (actions + 1) (alM + 1) fiF fiN fiD epN epD goH goN goD plS plP plM plA plBN plBD plLN plLD plR veW veF veP vsF vsN vsD juM juP juTN juTD juO scN scD noF noN noD neF neN neD arP arB arM arU arF arR arL arT arA arS leN leD grN grD arH arLU arGU shN shD stF stN stD rest1) := by
  have hD1 : ∀ x y, 0 ≤ x → x < y → y < actions + 1 → (up1 ab actions (168 + rest.length)) x + 25 ≤ (up1 ab actions (168 + rest.length)) y := fun x y x1 x2 x3 => by
    rw [up1_ne _ _ (show ¬ x = actions by omega)]
    by_cases ey : y = actions
    · subst ey
      rw [up1_eq]
      obtain ⟨-, a4, nd8, ch8, me8, nT8, nF8, cs8, cT8, cO8, cH8, cN8, cD8, mT8, mF8, as8, aT8, aO8, aH8, aN8, aD8, cG8, sA8, dO8, dN8, dD8, a5, -⟩ := hO x x1 (by omega)
      have := a5 24 (by omega)
      rw [show (actL (ab x) nd8 ch8 me8 nT8 nF8 cs8 cT8 cO8 cH8 cN8 cD8 mT8 mF8 as8 aT8 aO8 aH8 aN8 aD8 cG8 sA8 dO8 dN8 dD8)[24]? = some _ from rfl] at this
      have := (List.getElem?_eq_some_iff.mp this).1
      omega
    · rw [up1_ne _ _ ey]
      exact hD x y x1 x2 (by omega)
  have hl : (rest ++ (actL (168 + rest.length) 0 0 (fun _ => False) (fun _ _ => False) (fun _ _ => False) 0 (fun _ => 0) (fun _ => 0) (fun _ => 0) (fun _ => 0) (fun _ => 1) (fun _ _ => False) (fun _ _ => False) 0 (fun _ => 0) (fun _ => 0) (fun _ => 0) (fun _ => 0) (fun _ => 1) (fun _ _ => False) (fun _ _ => False) (fun _ => -2) (fun _ => 0) (fun _ => 1))).length = rest.length + 25 := by rw [List.length_append]; rfl
  have hin : ∀ i, i < 25 → (rest ++ (actL (168 + rest.length) 0 0 (fun _ => False) (fun _ _ => False) (fun _ _ => False) 0 (fun _ => 0) (fun _ => 0) (fun _ => 0) (fun _ => 0) (fun _ => 1) (fun _ _ => False) (fun _ _ => False) 0 (fun _ => 0) (fun _ => 0) (fun _ => 0) (fun _ => 0) (fun _ => 1) (fun _ _ => False) (fun _ _ => False) (fun _ => -2) (fun _ => 0) (fun _ => 1)))[rest.length + i]? = (actL (168 + rest.length) 0 0 (fun _ => False) (fun _ _ => False) (fun _ _ => False) 0 (fun _ => 0) (fun _ => 0) (fun _ => 0) (fun _ => 0) (fun _ => 1) (fun _ _ => False) (fun _ _ => False) 0 (fun _ => 0) (fun _ => 0) (fun _ => 0) (fun _ => 0) (fun _ => 1) (fun _ _ => False) (fun _ _ => False) (fun _ => -2) (fun _ => 0) (fun _ => 1))[i]? := fun i hi => by
    rw [List.getElem?_append_right (by omega), show rest.length + i - rest.length = i by omega]
  have hlow : ∀ j, j < rest.length → (rest ++ (actL (168 + rest.length) 0 0 (fun _ => False) (fun _ _ => False) (fun _ _ => False) 0 (fun _ => 0) (fun _ => 0) (fun _ => 0) (fun _ => 0) (fun _ => 1) (fun _ _ => False) (fun _ _ => False) 0 (fun _ => 0) (fun _ => 0) (fun _ => 0) (fun _ => 0) (fun _ => 1) (fun _ _ => False) (fun _ _ => False) (fun _ => -2) (fun _ => 0) (fun _ => 1)))[j]? = rest[j]? := fun j hj => List.getElem?_append_left hj
  rcases hL with ⟨rfl, rfl⟩ | ⟨p0, p1, vs, p2, p3⟩
  · have hg : ∀ j, j < rest.length + 25 → ((rest ++ (actL (168 + rest.length) 0 0 (fun _ => False) (fun _ _ => False) (fun _ _ => False) 0 (fun _ => 0) (fun _ => 0) (fun _ => 0) (fun _ => 0) (fun _ => 1) (fun _ _ => False) (fun _ _ => False) 0 (fun _ => 0) (fun _ => 0) (fun _ => 0) (fun _ => 0) (fun _ => 1) (fun _ _ => False) (fun _ _ => False) (fun _ => -2) (fun _ => 0) (fun _ => 1))) ++ [.inl (.object "java/lang/Object", (List.replicate 10 Value.null).set 0 (.ref (168 + rest.length)))])[j]? = (rest ++ (actL (168 + rest.length) 0 0 (fun _ => False) (fun _ _ => False) (fun _ _ => False) 0 (fun _ => 0) (fun _ => 0) (fun _ => 0) (fun _ => 0) (fun _ => 1) (fun _ _ => False) (fun _ _ => False) 0 (fun _ => 0) (fun _ => 0) (fun _ => 0) (fun _ => 0) (fun _ => 1) (fun _ _ => False) (fun _ _ => False) (fun _ => -2) (fun _ => 0) (fun _ => 1)))[j]? := fun j hj => List.getElem?_append_left (by rw [hl]; exact hj)
    have ht : ((rest ++ (actL (168 + rest.length) 0 0 (fun _ => False) (fun _ _ => False) (fun _ _ => False) 0 (fun _ => 0) (fun _ => 0) (fun _ => 0) (fun _ => 0) (fun _ => 1) (fun _ _ => False) (fun _ _ => False) 0 (fun _ => 0) (fun _ => 0) (fun _ => 0) (fun _ => 0) (fun _ => 1) (fun _ _ => False) (fun _ _ => False) (fun _ => -2) (fun _ => 0) (fun _ => 1))) ++ [.inl (.object "java/lang/Object", (List.replicate 10 Value.null).set 0 (.ref (168 + rest.length)))])[168 + (rest ++ (actL (168 + rest.length) 0 0 (fun _ => False) (fun _ _ => False) (fun _ _ => False) 0 (fun _ => 0) (fun _ => 0) (fun _ => 0) (fun _ => 0) (fun _ => 1) (fun _ _ => False) (fun _ _ => False) 0 (fun _ => 0) (fun _ => 0) (fun _ => 0) (fun _ => 0) (fun _ => 1) (fun _ _ => False) (fun _ _ => False) (fun _ => -2) (fun _ => 0) (fun _ => 1))).length - 168]? = some (.inl (.object "java/lang/Object", (List.replicate 10 Value.null).set 0 (.ref (168 + rest.length)))) := by
      rw [show 168 + (rest ++ (actL (168 + rest.length) 0 0 (fun _ => False) (fun _ _ => False) (fun _ _ => False) 0 (fun _ => 0) (fun _ => 0) (fun _ => 0) (fun _ => 0) (fun _ => 1) (fun _ _ => False) (fun _ _ => False) 0 (fun _ => 0) (fun _ => 0) (fun _ => 0) (fun _ => 0) (fun _ => 1) (fun _ _ => False) (fun _ _ => False) (fun _ => -2) (fun _ => 0) (fun _ => 1))).length - 168 = (rest ++ (actL (168 + rest.length) 0 0 (fun _ => False) (fun _ _ => False) (fun _ _ => False) 0 (fun _ => 0) (fun _ => 0) (fun _ => 0) (fun _ => 0) (fun _ => 1) (fun _ _ => False) (fun _ _ => False) 0 (fun _ => 0) (fun _ => 0) (fun _ => 0) (fun _ => 0) (fun _ => 1) (fun _ _ => False) (fun _ _ => False) (fun _ => -2) (fun _ => 0) (fun _ => 1))).length by omega]
      exact gX
    refine ⟨_, _, acts_new hO (by omega) h51 (by omega) (fun j hj _ => ?_) ht (fun x z1 z2 => by omega) rfl (fun i hi => ?_), Or.inr ⟨by omega, by rw [hl]; omega, _, ht, rfl⟩, hD1, ?_, ?_, ?_, r_action_e⟩
    · rw [hg j (by omega), hlow j hj]
    · rw [hg _ (by omega), hin i hi]
    · rw [List.length_append, hl]; simp
    · rw [List.length_append, hl]; omega
    · rw [List.append_assoc, List.take_append_of_le_length h51]
  · have hlt : alE - 168 < rest.length := (List.getElem?_eq_some_iff.mp p2).1
    obtain ⟨⟨q1, us, q2, q3⟩, -, -⟩ := hO 0 (by omega) (by omega)
    have hus : ∀ x, 0 ≤ x → x < actions → vs[x.toNat]? = some (.ref (ab x)) := fun x x1 x2 => by
      obtain ⟨⟨w1, ws, w2, w3⟩, -, -⟩ := hO x x1 x2
      rw [p2] at w2
      cases w2
      exact w3
    by_cases h10 : actions = 10
    · subst h10
      have h3 : vs.length = 10 := by rw [if_pos (by omega)] at p3; omega
      have hok : ∀ m : AM, (∀ j, 168 ≤ j → m[j]? = (rest ++ (actL (168 + rest.length) 0 0 (fun _ => False) (fun _ _ => False) (fun _ _ => False) 0 (fun _ => 0) (fun _ => 0) (fun _ => 0) (fun _ => 0) (fun _ => 1) (fun _ _ => False) (fun _ _ => False) 0 (fun _ => 0) (fun _ => 0) (fun _ => 0) (fun _ => 0) (fun _ => 1) (fun _ _ => False) (fun _ _ => False) (fun _ => -2) (fun _ => 0) (fun _ => 1)))[j - 168]?) → vs.all (okE1 m) = true := fun m hm => by
        refine List.all_eq_true.mpr (fun v hv => ?_)
        obtain ⟨i, hi, rfl⟩ := List.getElem_of_mem hv
        have e1 := hus (i : Int) (by omega) (by omega)
        rw [show ((i : Int)).toNat = i by omega, List.getElem?_eq_getElem hi] at e1
        rw [Option.some.inj e1]
        obtain ⟨-, a4, nd8, ch8, me8, nT8, nF8, cs8, cT8, cO8, cH8, cN8, cD8, mT8, mF8, as8, aT8, aO8, aH8, aN8, aD8, cG8, sA8, dO8, dN8, dD8, a5, -⟩ := hO (i : Int) (by omega) (by omega)
        obtain ⟨fs, a6⟩ : ∃ fs, rest[ab (i : Int) - 168]? = some (.inr (1, fs)) := by
          have a8 := a5 0 (by omega)
          rw [Nat.add_zero] at a8
          exact ⟨_, a8⟩
        have a7 := (List.getElem?_eq_some_iff.mp a6).1
        unfold okE1
        dsimp only
        rw [hm _ (by omega), hlow _ a7, a6]
        rfl
      have hg : ∀ j, j < rest.length + 25 → ((rest ++ (actL (168 + rest.length) 0 0 (fun _ => False) (fun _ _ => False) (fun _ _ => False) 0 (fun _ => 0) (fun _ => 0) (fun _ => 0) (fun _ => 0) (fun _ => 1) (fun _ _ => False) (fun _ _ => False) 0 (fun _ => 0) (fun _ => 0) (fun _ => 0) (fun _ => 0) (fun _ => 1) (fun _ _ => False) (fun _ _ => False) (fun _ => -2) (fun _ => 0) (fun _ => 1))) ++ [.inl (.object "java/lang/Object", (vs ++ List.replicate 5 Value.null).set 10 (.ref (168 + rest.length)))])[j]? = (rest ++ (actL (168 + rest.length) 0 0 (fun _ => False) (fun _ _ => False) (fun _ _ => False) 0 (fun _ => 0) (fun _ => 0) (fun _ => 0) (fun _ => 0) (fun _ => 1) (fun _ _ => False) (fun _ _ => False) 0 (fun _ => 0) (fun _ => 0) (fun _ => 0) (fun _ => 0) (fun _ => 1) (fun _ _ => False) (fun _ _ => False) (fun _ => -2) (fun _ => 0) (fun _ => 1)))[j]? := fun j hj => List.getElem?_append_left (by rw [hl]; exact hj)
      have ht : ((rest ++ (actL (168 + rest.length) 0 0 (fun _ => False) (fun _ _ => False) (fun _ _ => False) 0 (fun _ => 0) (fun _ => 0) (fun _ => 0) (fun _ => 0) (fun _ => 1) (fun _ _ => False) (fun _ _ => False) 0 (fun _ => 0) (fun _ => 0) (fun _ => 0) (fun _ => 0) (fun _ => 1) (fun _ _ => False) (fun _ _ => False) (fun _ => -2) (fun _ => 0) (fun _ => 1))) ++ [.inl (.object "java/lang/Object", (vs ++ List.replicate 5 Value.null).set 10 (.ref (168 + rest.length)))])[168 + (rest ++ (actL (168 + rest.length) 0 0 (fun _ => False) (fun _ _ => False) (fun _ _ => False) 0 (fun _ => 0) (fun _ => 0) (fun _ => 0) (fun _ => 0) (fun _ => 1) (fun _ _ => False) (fun _ _ => False) 0 (fun _ => 0) (fun _ => 0) (fun _ => 0) (fun _ => 0) (fun _ => 1) (fun _ _ => False) (fun _ _ => False) (fun _ => -2) (fun _ => 0) (fun _ => 1))).length - 168]? = some (.inl (.object "java/lang/Object", (vs ++ List.replicate 5 Value.null).set 10 (.ref (168 + rest.length)))) := by
        rw [show 168 + (rest ++ (actL (168 + rest.length) 0 0 (fun _ => False) (fun _ _ => False) (fun _ _ => False) 0 (fun _ => 0) (fun _ => 0) (fun _ => 0) (fun _ => 0) (fun _ => 1) (fun _ _ => False) (fun _ _ => False) 0 (fun _ => 0) (fun _ => 0) (fun _ => 0) (fun _ => 0) (fun _ => 1) (fun _ _ => False) (fun _ _ => False) (fun _ => -2) (fun _ => 0) (fun _ => 1))).length - 168 = (rest ++ (actL (168 + rest.length) 0 0 (fun _ => False) (fun _ _ => False) (fun _ _ => False) 0 (fun _ => 0) (fun _ => 0) (fun _ => 0) (fun _ => 0) (fun _ => 1) (fun _ _ => False) (fun _ _ => False) 0 (fun _ => 0) (fun _ => 0) (fun _ => 0) (fun _ => 0) (fun _ => 1) (fun _ _ => False) (fun _ _ => False) (fun _ => -2) (fun _ => 0) (fun _ => 1))).length by omega]
        exact gX
      refine ⟨_, _, acts_new hO (by omega) h51 (by omega) (fun j hj _ => ?_) ht (fun x z1 z2 => ?_) ?_ (fun i hi => ?_), Or.inr ⟨by omega, by rw [hl]; omega, _, ht, ?_⟩, hD1, ?_, ?_, ?_, r_action_c (by omega) p2 h3 hok⟩
      · rw [hg j (by omega), hlow j hj]
      · rw [List.getElem?_set_ne (by omega), List.getElem?_append_left (by omega)]
        exact hus x z1 z2
      · rw [show (10 : Int).toNat = 10 from rfl, List.getElem?_set_self (by rw [List.length_append, h3]; decide)]
      · rw [hg _ (by omega), hin i hi]
      · rw [List.length_set, List.length_append, h3]; rfl
      · rw [List.length_append, hl]; simp
      · rw [List.length_append, hl]; omega
      · rw [List.append_assoc, List.take_append_of_le_length h51]
    · obtain ⟨k, hk, hk2⟩ : ∃ k : Nat, vs.length = k ∧ (actions < k ∧ k ≤ 15) := by
        refine ⟨vs.length, rfl, ?_⟩
        split at p3 <;> omega
      have ht : ((rest ++ (actL (168 + rest.length) 0 0 (fun _ => False) (fun _ _ => False) (fun _ _ => False) 0 (fun _ => 0) (fun _ => 0) (fun _ => 0) (fun _ => 0) (fun _ => 1) (fun _ _ => False) (fun _ _ => False) 0 (fun _ => 0) (fun _ => 0) (fun _ => 0) (fun _ => 0) (fun _ => 1) (fun _ _ => False) (fun _ _ => False) (fun _ => -2) (fun _ => 0) (fun _ => 1))).set (alE - 168) (.inl (.object "java/lang/Object", vs.set actions.toNat (.ref (168 + rest.length)))))[alE - 168]? = some (.inl (.object "java/lang/Object", vs.set actions.toNat (.ref (168 + rest.length)))) := List.getElem?_set_self (by rw [hl]; omega)
      refine ⟨_, _, acts_new hO wA h51 (by omega) (fun j hj hne => ?_) ht (fun x z1 z2 => ?_) ?_ (fun i hi => ?_), Or.inr ⟨by omega, p1, _, ht, ?_⟩, hD1, ?_, ?_, ?_, r_action_n (by omega) p2 (fun _ => hlt) hk hk2 wA⟩
      · rw [List.getElem?_set_ne (fun z => hne p0 z.symm), hlow j hj]
      · rw [List.getElem?_set_ne (by omega)]
        exact hus x z1 z2
      · rw [List.getElem?_set_self (by omega)]
      · rw [List.getElem?_set_ne (by omega), hin i hi]
      · rw [List.length_set, p3]
        split <;> split <;> omega
      · rw [List.length_set, hl]; omega
      · rw [List.length_set, hl]; omega
      · apply List.ext_getElem?
        intro j
        by_cases hj : j < 51
        · rw [List.getElem?_take_of_lt hj, List.getElem?_take_of_lt hj, List.getElem?_set_ne (by omega), hlow j (by omega)]
        · rw [List.getElem?_take, List.getElem?_take, if_neg hj, if_neg hj]
end R91
