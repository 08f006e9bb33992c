/-! The reference: bounds and the walk along the row. -/
/-- the bounds of a step, in the state in which it begins -/
def lbN (lastOf lastN lastD : Int → Int) (eN eD : Int) (numN numD : Int → Int) (a : Int) : Int := if lastOf (2 * a + 0) = -2 then eN else if 0 < cmpF (durP numN lastOf lastN (2 * a + 0)) (durP numD lastOf lastD (2 * a + 0)) eN eD then nN (durP numN lastOf lastN (2 * a + 0)) (durP numD lastOf lastD (2 * a + 0)) else eN
def lbD (lastOf lastN lastD : Int → Int) (eN eD : Int) (numN numD : Int → Int) (a : Int) : Int := if lastOf (2 * a + 0) = -2 then eD else if 0 < cmpF (durP numN lastOf lastN (2 * a + 0)) (durP numD lastOf lastD (2 * a + 0)) eN eD then nD (durP numN lastOf lastN (2 * a + 0)) (durP numD lastOf lastD (2 * a + 0)) else eD
def gbN (lastOf lastN lastD numN numD : Int → Int) (a : Int) : Int := nN (durP numN lastOf lastN (2 * a + 1)) (durP numD lastOf lastD (2 * a + 1))
def gbD (lastOf lastN lastD numN numD : Int → Int) (a : Int) : Int := if lastOf (2 * a + 1) = -2 then 0 else nD (durP numN lastOf lastN (2 * a + 1)) (durP numD lastOf lastD (2 * a + 1))
abbrev NB : Type := Int × Int × Int × Int
/-- parts of bounds that stay small -/
def bdB (b : NB) : Prop := (0 < b.1 ∧ b.1 ≤ 100000000000000 ∧ 0 < b.2.1 ∧ b.2.1 ≤ 1000000000000) ∧ (0 ≤ b.2.2.2 ∧ b.2.2.2 ≤ 1000000000000) ∧ (¬ b.2.2.2 = 0 → -100000000000000 ≤ b.2.2.1 ∧ b.2.2.1 ≤ 100000000000000)
def BOK (gone : Int → Prop) (B : Int → NB) (lN lD gN gD : Int → Int) : Prop := ∀ s, 0 ≤ s → gone (2 * s) → lN s = (B s).1 ∧ lD s = (B s).2.1 ∧ gD s = (B s).2.2.2 ∧ (¬ (B s).2.2.2 = 0 → gN s = (B s).2.2.1) ∧ bdB (B s)
def badS (FT : NS → Int → Int → Prop) (gone : Int → Prop) (S : NS) (s : Int) : Prop := gone (2 * s) ∧ ¬ gone (2 * s + 1) ∧ ¬ FT S s 1
/-- along the row, point after point -/
def WalkR (m : Int) (row : Int → Int) (FT : NS → Int → Int → Prop) (CC : NS → Int → Option NS) (BN : NS → Int → NB) (GO : NS → Prop) : Nat → Int → (Int → Prop) → NS → (Int → NB) → Int → Int → NS → (Int → NB) → Prop
  | 0, _, _, S, B, why, _, S1, B1 => S1 = S ∧ B1 = B ∧ ((GO S ∧ why = 0) ∨ (¬ GO S ∧ why = 6))
  | n + 1, k, gone, S, B, why, pt, S1, B1 => (¬ FT S (row k / 2) (tmo (row k)) ∧ why = 2 ∧ pt = row k ∧ S1 = S) ∨ (FT S (row k / 2) (tmo (row k)) ∧ ((CC S (row k) = none ∧ why = 4 ∧ pt = row k ∧ S1 = S) ∨ (∃ S2, CC S (row k) = some S2 ∧ ((∃ s, pt = 2 * s ∧ 0 ≤ s ∧ s < m ∧ badS FT (up1 gone (row k) True) S2 s ∧ (∀ r, 0 ≤ r → r < s → ¬ badS FT (up1 gone (row k) True) S2 r) ∧ why = 5 ∧ S1 = S2) ∨ ((∀ r, 0 ≤ r → r < m → ¬ badS FT (up1 gone (row k) True) S2 r) ∧ WalkR m row FT CC BN GO n (k + 1) (up1 gone (row k) True) S2 (if row k % 2 = 0 then up1 B (row k / 2) (BN S (row k / 2)) else B) why pt S1 B1)))))
section R53
variable {pre post mem : AM}
variable {code amountN amountD momentN momentD epsilonN epsilonD actions steps rows tried triedRows unit point judged fault faultPoint outN outD : Int}
variable {firstN firstD wishes wants wantN wantD needs needTime needOf needHow needN needD changes changeTime changeOf changeHow changeN changeD lastOf lastN lastD stepAction startN startD lengthN lengthD row triedAction triedRow times numN numD oldN oldD toldN toldD pointN pointD leastN leastD greatestN greatestD events : Int → Int}
variable {firstFacts facts oldFacts toldFacts gone now : Int → Prop}
theorem c_Mo_bound {d : Nat} (hp : pre.length = 168) (hw : WT epsilonN epsilonD wishes wants wantN wantD actions needs needTime needOf needHow needN needD changes changeTime changeOf changeHow changeN changeD lastOf lastN lastD firstN firstD) (wN : WN numN numD) {s : Int} (h1 : 0 ≤ s ∧ s < 12) (ha : 0 ≤ triedAction s ∧ triedAction s < actions) : ∃ x1 y1 gn, (¬ (gbD lastOf lastN lastD numN numD (triedAction s)) = 0 → gn = (gbN lastOf lastN lastD numN numD (triedAction s))) ∧ Cg false (d + 4) m_Mo_bound [.ref 168, .int (iI s)] (MR pre code amountN amountD momentN momentD epsilonN epsilonD firstFacts firstN firstD wishes wants wantN wantD actions needs needTime needOf needHow needN needD changes changeTime changeOf changeHow changeN changeD lastOf lastN lastD steps stepAction startN startD lengthN lengthD rows row tried triedAction triedRows triedRow times unit facts numN numD oldFacts oldN oldD point judged fault faultPoint toldFacts toldN toldD outN outD pointN pointD gone now leastN leastD greatestN greatestD events post) (.inl none) (MR pre code amountN amountD momentN momentD epsilonN epsilonD firstFacts firstN firstD wishes wants wantN wantD actions needs needTime needOf needHow needN needD changes changeTime changeOf changeHow changeN changeD lastOf lastN lastD steps stepAction startN startD lengthN lengthD rows row tried triedAction triedRows triedRow times unit facts numN numD oldFacts oldN oldD point judged fault faultPoint toldFacts toldN toldD x1 y1 pointN pointD gone now (up1 leastN s (lbN lastOf lastN lastD epsilonN epsilonD numN numD (triedAction s))) (up1 leastD s (lbD lastOf lastN lastD epsilonN epsilonD numN numD (triedAction s))) (up1 greatestN s gn) (up1 greatestD s (gbD lastOf lastN lastD numN numD (triedAction s))) events post) := by
  obtain ⟨wE, -, -, -, -, -, -, -, -, -, -, -, -, -, -, -, -, -, -, -, -⟩ := id hw
  by_cases d0 : lastOf (2 * triedAction s + 0) = -2
  · by_cases d1 : lastOf (2 * triedAction s + 1) = -2
    · skip
      refine ⟨outN, outD, outN, fun z => absurd (by unfold gbD; rw [if_pos d1]) z, ?_⟩
      rw [show (lbN lastOf lastN lastD epsilonN epsilonD numN numD (triedAction s)) = epsilonN by unfold lbN; rw [if_pos d0], show (lbD lastOf lastN lastD epsilonN epsilonD numN numD (triedAction s)) = epsilonD by unfold lbD; rw [if_pos d0]]
      rw [show (gbD lastOf lastN lastD numN numD (triedAction s)) = 0 by unfold gbD; rw [if_pos d1]]
      refine Cg.of (Nat.le_of_ble_eq_true rfl) ?_
      change Rg _ _ _ _ 0 [(0, .ref 168), (1, .int (iI s))] [] _ _ _
      refine Rg.step 1 F_Mo_bound_0 rfl (fun _ => rfl) ?_
      refine Rg.step 2 F_Mo_bound_1 rfl (fun _ => rfl) ?_
      refine Rg.step 3 F_Mo_bound_2 rfl (fun _ => rfl) ?_
      refine Rg.call 6 F_Mo_bound_3 rfl (one_V rM_26_293 (by decide) (by simp) rfl rfl (gM hp) rfl) (Nat.le_of_ble_eq_true rfl) (Cg.any (c_Mo_dur_no hp hw h1 (by omega) ha d0)) ?_
      refine Rg.ifeqP 35 9 F_Mo_bound_6 rfl rfl (fun _ => ?_) (fun h6 => absurd h6 (fun z => z))
      refine Rg.step 36 F_Mo_bound_35 rfl (fun _ => rfl) ?_
      refine Rg.step 37 F_Mo_bound_36 rfl (fun _ => rfl) ?_
      refine Rg.step 38 F_Mo_bound_37 rfl (fun _ => rfl) ?_
      refine Rg.getf 41 F_Mo_bound_38 rfl rF_26_163 (gM hp) rfl ?_
      refine Rg.step 42 F_Mo_bound_41 rfl (fun _ => rfl) ?_
      refine Rg.step 43 F_Mo_bound_42 rfl (fun _ => rfl) ?_
      refine Rg.ifeqI 53 46 F_Mo_bound_43 rfl rfl (by omega) (fun _ => ?_) (fun h43 => by omega)
      refine Rg.step 54 F_Mo_bound_53 rfl (fun _ => rfl) ?_
      refine Rg.getf 57 F_Mo_bound_54 rfl rF_26_16 (gM hp) rfl ?_
      refine Rg.lst 58 F_Mo_bound_57 rfl (gR_leastN hp) (by decide) (sR_leastN hp) (by omega) (by decide) ?_
      refine Rg.step 59 F_Mo_bound_58 rfl (fun _ => rfl) ?_
      refine Rg.getf 62 F_Mo_bound_59 rfl rF_26_166 (gM hp) rfl ?_
      refine Rg.step 63 F_Mo_bound_62 rfl (fun _ => rfl) ?_
      refine Rg.step 64 F_Mo_bound_63 rfl (fun _ => rfl) ?_
      refine Rg.ifeqI 74 67 F_Mo_bound_64 rfl rfl (by omega) (fun _ => ?_) (fun h64 => by omega)
      refine Rg.step 75 F_Mo_bound_74 rfl (fun _ => rfl) ?_
      refine Rg.getf 78 F_Mo_bound_75 rfl rF_26_21 (gM hp) rfl ?_
      refine Rg.lst 79 F_Mo_bound_78 rfl (gR_leastD hp) (by decide) (sR_leastD hp) (by omega) (by decide) ?_
      refine Rg.step 80 F_Mo_bound_79 rfl (fun _ => rfl) ?_
      refine Rg.step 81 F_Mo_bound_80 rfl (fun _ => rfl) ?_
      refine Rg.step 82 F_Mo_bound_81 rfl (fun _ => rfl) ?_
      refine Rg.call 85 F_Mo_bound_82 rfl (one_V rM_26_293 (by decide) (by simp) rfl rfl (gM hp) rfl) (Nat.le_of_ble_eq_true rfl) (Cg.any (c_Mo_dur_no hp hw h1 (by omega) ha d1)) ?_
      refine Rg.step 86 F_Mo_bound_85 rfl (fun _ => rfl) ?_
      refine Rg.step 87 F_Mo_bound_86 rfl (fun _ => rfl) ?_
      refine Rg.getf 90 F_Mo_bound_87 rfl rF_26_169 (gM hp) rfl ?_
      refine Rg.step 91 F_Mo_bound_90 rfl (fun _ => rfl) ?_
      refine Rg.step 92 F_Mo_bound_91 rfl (fun _ => rfl) ?_
      refine Rg.getf 95 F_Mo_bound_92 rfl rF_26_189 (gM hp) rfl ?_
      refine Rg.lst 96 F_Mo_bound_95 rfl (gR_greatestN hp) (by decide) (sR_greatestN hp) (by omega) (by decide) ?_
      refine Rg.step 97 F_Mo_bound_96 rfl (fun _ => rfl) ?_
      refine Rg.getf 100 F_Mo_bound_97 rfl rF_26_172 (gM hp) rfl ?_
      refine Rg.step 101 F_Mo_bound_100 rfl (fun _ => rfl) ?_
      refine Rg.step 102 F_Mo_bound_101 rfl (fun _ => rfl) ?_
      refine Rg.ifeqP 112 105 F_Mo_bound_102 rfl rfl (fun _ => ?_) (fun h102 => absurd h102 (fun z => z))
      refine Rg.lcn (n := 0) 113 F_Mo_bound_112 rfl rfl ?_
      refine Rg.lst 114 F_Mo_bound_113 rfl (gR_greatestD hp) (by decide) (sR_greatestD hp) (by omega) (by decide) ?_
      exact Rg.retV F_Mo_bound_114 rfl rfl
    · skip
      refine ⟨(nN (durP numN lastOf lastN (2 * triedAction s + 1)) (durP numD lastOf lastD (2 * triedAction s + 1))), (nD (durP numN lastOf lastN (2 * triedAction s + 1)) (durP numD lastOf lastD (2 * triedAction s + 1))), (nN (durP numN lastOf lastN (2 * triedAction s + 1)) (durP numD lastOf lastD (2 * triedAction s + 1))), fun _ => rfl, ?_⟩
      rw [show (lbN lastOf lastN lastD epsilonN epsilonD numN numD (triedAction s)) = epsilonN by unfold lbN; rw [if_pos d0], show (lbD lastOf lastN lastD epsilonN epsilonD numN numD (triedAction s)) = epsilonD by unfold lbD; rw [if_pos d0]]
      rw [show (gbD lastOf lastN lastD numN numD (triedAction s)) = (nD (durP numN lastOf lastN (2 * triedAction s + 1)) (durP numD lastOf lastD (2 * triedAction s + 1))) by unfold gbD; rw [if_neg d1]]
      refine Cg.of (Nat.le_of_ble_eq_true rfl) ?_
      change Rg _ _ _ _ 0 [(0, .ref 168), (1, .int (iI s))] [] _ _ _
      refine Rg.step 1 F_Mo_bound_0 rfl (fun _ => rfl) ?_
      refine Rg.step 2 F_Mo_bound_1 rfl (fun _ => rfl) ?_
      refine Rg.step 3 F_Mo_bound_2 rfl (fun _ => rfl) ?_
      refine Rg.call 6 F_Mo_bound_3 rfl (one_V rM_26_293 (by decide) (by simp) rfl rfl (gM hp) rfl) (Nat.le_of_ble_eq_true rfl) (Cg.any (c_Mo_dur_no hp hw h1 (by omega) ha d0)) ?_
      refine Rg.ifeqP 35 9 F_Mo_bound_6 rfl rfl (fun _ => ?_) (fun h6 => absurd h6 (fun z => z))
      refine Rg.step 36 F_Mo_bound_35 rfl (fun _ => rfl) ?_
      refine Rg.step 37 F_Mo_bound_36 rfl (fun _ => rfl) ?_
      refine Rg.step 38 F_Mo_bound_37 rfl (fun _ => rfl) ?_
      refine Rg.getf 41 F_Mo_bound_38 rfl rF_26_163 (gM hp) rfl ?_
      refine Rg.step 42 F_Mo_bound_41 rfl (fun _ => rfl) ?_
      refine Rg.step 43 F_Mo_bound_42 rfl (fun _ => rfl) ?_
      refine Rg.ifeqI 53 46 F_Mo_bound_43 rfl rfl (by omega) (fun _ => ?_) (fun h43 => by omega)
      refine Rg.step 54 F_Mo_bound_53 rfl (fun _ => rfl) ?_
      refine Rg.getf 57 F_Mo_bound_54 rfl rF_26_16 (gM hp) rfl ?_
      refine Rg.lst 58 F_Mo_bound_57 rfl (gR_leastN hp) (by decide) (sR_leastN hp) (by omega) (by decide) ?_
      refine Rg.step 59 F_Mo_bound_58 rfl (fun _ => rfl) ?_
      refine Rg.getf 62 F_Mo_bound_59 rfl rF_26_166 (gM hp) rfl ?_
      refine Rg.step 63 F_Mo_bound_62 rfl (fun _ => rfl) ?_
      refine Rg.step 64 F_Mo_bound_63 rfl (fun _ => rfl) ?_
      refine Rg.ifeqI 74 67 F_Mo_bound_64 rfl rfl (by omega) (fun _ => ?_) (fun h64 => by omega)
      refine Rg.step 75 F_Mo_bound_74 rfl (fun _ => rfl) ?_
      refine Rg.getf 78 F_Mo_bound_75 rfl rF_26_21 (gM hp) rfl ?_
      refine Rg.lst 79 F_Mo_bound_78 rfl (gR_leastD hp) (by decide) (sR_leastD hp) (by omega) (by decide) ?_
      refine Rg.step 80 F_Mo_bound_79 rfl (fun _ => rfl) ?_
      refine Rg.step 81 F_Mo_bound_80 rfl (fun _ => rfl) ?_
      refine Rg.step 82 F_Mo_bound_81 rfl (fun _ => rfl) ?_
      refine Rg.call 85 F_Mo_bound_82 rfl (one_V rM_26_293 (by decide) (by simp) rfl rfl (gM hp) rfl) (Nat.le_of_ble_eq_true rfl) (c_Mo_dur_yes hp hw h1 (by omega) ha wN d1) ?_
      refine Rg.step 86 F_Mo_bound_85 rfl (fun _ => rfl) ?_
      refine Rg.step 87 F_Mo_bound_86 rfl (fun _ => rfl) ?_
      refine Rg.getf 90 F_Mo_bound_87 rfl rF_26_169 (gM hp) rfl ?_
      refine Rg.step 91 F_Mo_bound_90 rfl (fun _ => rfl) ?_
      refine Rg.step 92 F_Mo_bound_91 rfl (fun _ => rfl) ?_
      refine Rg.getf 95 F_Mo_bound_92 rfl rF_26_189 (gM hp) rfl ?_
      refine Rg.lst 96 F_Mo_bound_95 rfl (gR_greatestN hp) (by decide) (sR_greatestN hp) (by omega) (by decide) ?_
      refine Rg.step 97 F_Mo_bound_96 rfl (fun _ => rfl) ?_
      refine Rg.getf 100 F_Mo_bound_97 rfl rF_26_172 (gM hp) rfl ?_
      refine Rg.step 101 F_Mo_bound_100 rfl (fun _ => rfl) ?_
      refine Rg.step 102 F_Mo_bound_101 rfl (fun _ => rfl) ?_
      refine Rg.ifeqP 112 105 F_Mo_bound_102 rfl rfl (fun h102 => absurd trivial h102) (fun _ => ?_)
      refine Rg.step 106 F_Mo_bound_105 rfl (fun _ => rfl) ?_
      refine Rg.getf 109 F_Mo_bound_106 rfl rF_26_192 (gM hp) rfl ?_
      refine Rg.step 113 F_Mo_bound_109 rfl (fun _ => rfl) ?_
      refine Rg.lst 114 F_Mo_bound_113 rfl (gR_greatestD hp) (by decide) (sR_greatestD hp) (by omega) (by decide) ?_
      exact Rg.retV F_Mo_bound_114 rfl rfl
  · skip
    have b0 := dur_bd hw wN (which := 0) (by omega) ha d0
    have n0 := nN_bd (B := 100000000000000) b0.2.2.1 ⟨b0.1, b0.2.1⟩
    have q0 := nD_pos (n := (durP numN lastOf lastN (2 * triedAction s + 0))) b0.2.2.1
    have e0 := cmpF_red (m := epsilonN) (e := epsilonD) (n := (durP numN lastOf lastN (2 * triedAction s + 0))) b0.2.2.1
    have f0 := cmpF_b (durP numN lastOf lastN (2 * triedAction s + 0)) (durP numD lastOf lastD (2 * triedAction s + 0)) epsilonN epsilonD
    by_cases c0 : 0 < cmpF (durP numN lastOf lastN (2 * triedAction s + 0)) (durP numD lastOf lastD (2 * triedAction s + 0)) epsilonN epsilonD
    · by_cases d1 : lastOf (2 * triedAction s + 1) = -2
      · skip
        refine ⟨(nN (durP numN lastOf lastN (2 * triedAction s + 0)) (durP numD lastOf lastD (2 * triedAction s + 0))), (nD (durP numN lastOf lastN (2 * triedAction s + 0)) (durP numD lastOf lastD (2 * triedAction s + 0))), (nN (durP numN lastOf lastN (2 * triedAction s + 0)) (durP numD lastOf lastD (2 * triedAction s + 0))), fun z => absurd (by unfold gbD; rw [if_pos d1]) z, ?_⟩
        rw [show (lbN lastOf lastN lastD epsilonN epsilonD numN numD (triedAction s)) = (nN (durP numN lastOf lastN (2 * triedAction s + 0)) (durP numD lastOf lastD (2 * triedAction s + 0))) by unfold lbN; rw [if_neg d0, if_pos c0], show (lbD lastOf lastN lastD epsilonN epsilonD numN numD (triedAction s)) = (nD (durP numN lastOf lastN (2 * triedAction s + 0)) (durP numD lastOf lastD (2 * triedAction s + 0))) by unfold lbD; rw [if_neg d0, if_pos c0]]
        rw [show (gbD lastOf lastN lastD numN numD (triedAction s)) = 0 by unfold gbD; rw [if_pos d1]]
        refine Cg.of (Nat.le_of_ble_eq_true rfl) ?_
        change Rg _ _ _ _ 0 [(0, .ref 168), (1, .int (iI s))] [] _ _ _
        refine Rg.step 1 F_Mo_bound_0 rfl (fun _ => rfl) ?_
        refine Rg.step 2 F_Mo_bound_1 rfl (fun _ => rfl) ?_
        refine Rg.step 3 F_Mo_bound_2 rfl (fun _ => rfl) ?_
        refine Rg.call 6 F_Mo_bound_3 rfl (one_V rM_26_293 (by decide) (by simp) rfl rfl (gM hp) rfl) (Nat.le_of_ble_eq_true rfl) (c_Mo_dur_yes hp hw h1 (by omega) ha wN d0) ?_
        refine Rg.ifeqP 35 9 F_Mo_bound_6 rfl rfl (fun h6 => absurd trivial h6) (fun _ => ?_)
        refine Rg.step 10 F_Mo_bound_9 rfl (fun _ => rfl) ?_
        refine Rg.getf 13 F_Mo_bound_10 rfl rF_26_189 (gM hp) rfl ?_
        refine Rg.step 14 F_Mo_bound_13 rfl (fun _ => rfl) ?_
        refine Rg.getf 17 F_Mo_bound_14 rfl rF_26_192 (gM hp) rfl ?_
        refine Rg.step 18 F_Mo_bound_17 rfl (fun _ => rfl) ?_
        refine Rg.getf 21 F_Mo_bound_18 rfl rF_26_16 (gM hp) rfl ?_
        refine Rg.step 22 F_Mo_bound_21 rfl (fun _ => rfl) ?_
        refine Rg.getf 25 F_Mo_bound_22 rfl rF_26_21 (gM hp) rfl ?_
        refine Rg.call 28 F_Mo_bound_25 rfl (one_S (by decide +kernel) rM_26_264 (by decide) (by simp) rfl rfl) (Nat.le_of_ble_eq_true rfl) (Cg.any (c_Mo_order (by omega) (by omega) (by omega) (by omega) (by omega) (by omega))) ?_
        rw [e0]
        refine Rg.ifleI 35 31 F_Mo_bound_28 rfl rfl (by omega) (fun h28 => by omega) (fun _ => ?_)
        refine Rg.step 32 F_Mo_bound_31 rfl (fun _ => rfl) ?_
        refine Rg.step 36 F_Mo_bound_32 rfl (fun _ => rfl) ?_
        refine Rg.step 37 F_Mo_bound_36 rfl (fun _ => rfl) ?_
        refine Rg.step 38 F_Mo_bound_37 rfl (fun _ => rfl) ?_
        refine Rg.getf 41 F_Mo_bound_38 rfl rF_26_163 (gM hp) rfl ?_
        refine Rg.step 42 F_Mo_bound_41 rfl (fun _ => rfl) ?_
        refine Rg.step 43 F_Mo_bound_42 rfl (fun _ => rfl) ?_
        refine Rg.ifeqI 53 46 F_Mo_bound_43 rfl rfl (by omega) (fun h43 => by omega) (fun _ => ?_)
        refine Rg.step 47 F_Mo_bound_46 rfl (fun _ => rfl) ?_
        refine Rg.getf 50 F_Mo_bound_47 rfl rF_26_189 (gM hp) rfl ?_
        refine Rg.step 57 F_Mo_bound_50 rfl (fun _ => rfl) ?_
        refine Rg.lst 58 F_Mo_bound_57 rfl (gR_leastN hp) (by decide) (sR_leastN hp) (by omega) (by decide) ?_
        refine Rg.step 59 F_Mo_bound_58 rfl (fun _ => rfl) ?_
        refine Rg.getf 62 F_Mo_bound_59 rfl rF_26_166 (gM hp) rfl ?_
        refine Rg.step 63 F_Mo_bound_62 rfl (fun _ => rfl) ?_
        refine Rg.step 64 F_Mo_bound_63 rfl (fun _ => rfl) ?_
        refine Rg.ifeqI 74 67 F_Mo_bound_64 rfl rfl (by omega) (fun h64 => by omega) (fun _ => ?_)
        refine Rg.step 68 F_Mo_bound_67 rfl (fun _ => rfl) ?_
        refine Rg.getf 71 F_Mo_bound_68 rfl rF_26_192 (gM hp) rfl ?_
        refine Rg.step 78 F_Mo_bound_71 rfl (fun _ => rfl) ?_
        refine Rg.lst 79 F_Mo_bound_78 rfl (gR_leastD hp) (by decide) (sR_leastD hp) (by omega) (by decide) ?_
        refine Rg.step 80 F_Mo_bound_79 rfl (fun _ => rfl) ?_
        refine Rg.step 81 F_Mo_bound_80 rfl (fun _ => rfl) ?_
        refine Rg.step 82 F_Mo_bound_81 rfl (fun _ => rfl) ?_
        refine Rg.call 85 F_Mo_bound_82 rfl (one_V rM_26_293 (by decide) (by simp) rfl rfl (gM hp) rfl) (Nat.le_of_ble_eq_true rfl) (Cg.any (c_Mo_dur_no hp hw h1 (by omega) ha d1)) ?_
        refine Rg.step 86 F_Mo_bound_85 rfl (fun _ => rfl) ?_
        refine Rg.step 87 F_Mo_bound_86 rfl (fun _ => rfl) ?_
        refine Rg.getf 90 F_Mo_bound_87 rfl rF_26_169 (gM hp) rfl ?_
        refine Rg.step 91 F_Mo_bound_90 rfl (fun _ => rfl) ?_
        refine Rg.step 92 F_Mo_bound_91 rfl (fun _ => rfl) ?_
        refine Rg.getf 95 F_Mo_bound_92 rfl rF_26_189 (gM hp) rfl ?_
        refine Rg.lst 96 F_Mo_bound_95 rfl (gR_greatestN hp) (by decide) (sR_greatestN hp) (by omega) (by decide) ?_
        refine Rg.step 97 F_Mo_bound_96 rfl (fun _ => rfl) ?_
        refine Rg.getf 100 F_Mo_bound_97 rfl rF_26_172 (gM hp) rfl ?_
        refine Rg.step 101 F_Mo_bound_100 rfl (fun _ => rfl) ?_
        refine Rg.step 102 F_Mo_bound_101 rfl (fun _ => rfl) ?_
        refine Rg.ifeqP 112 105 F_Mo_bound_102 rfl rfl (fun _ => ?_) (fun h102 => absurd h102 (fun z => z))
        refine Rg.lcn (n := 0) 113 F_Mo_bound_112 rfl rfl ?_
        refine Rg.lst 114 F_Mo_bound_113 rfl (gR_greatestD hp) (by decide) (sR_greatestD hp) (by omega) (by decide) ?_
        exact Rg.retV F_Mo_bound_114 rfl rfl
      · skip
        refine ⟨(nN (durP numN lastOf lastN (2 * triedAction s + 1)) (durP numD lastOf lastD (2 * triedAction s + 1))), (nD (durP numN lastOf lastN (2 * triedAction s + 1)) (durP numD lastOf lastD (2 * triedAction s + 1))), (nN (durP numN lastOf lastN (2 * triedAction s + 1)) (durP numD lastOf lastD (2 * triedAction s + 1))), fun _ => rfl, ?_⟩
        rw [show (lbN lastOf lastN lastD epsilonN epsilonD numN numD (triedAction s)) = (nN (durP numN lastOf lastN (2 * triedAction s + 0)) (durP numD lastOf lastD (2 * triedAction s + 0))) by unfold lbN; rw [if_neg d0, if_pos c0], show (lbD lastOf lastN lastD epsilonN epsilonD numN numD (triedAction s)) = (nD (durP numN lastOf lastN (2 * triedAction s + 0)) (durP numD lastOf lastD (2 * triedAction s + 0))) by unfold lbD; rw [if_neg d0, if_pos c0]]
        rw [show (gbD lastOf lastN lastD numN numD (triedAction s)) = (nD (durP numN lastOf lastN (2 * triedAction s + 1)) (durP numD lastOf lastD (2 * triedAction s + 1))) by unfold gbD; rw [if_neg d1]]
        refine Cg.of (Nat.le_of_ble_eq_true rfl) ?_
        change Rg _ _ _ _ 0 [(0, .ref 168), (1, .int (iI s))] [] _ _ _
        refine Rg.step 1 F_Mo_bound_0 rfl (fun _ => rfl) ?_
        refine Rg.step 2 F_Mo_bound_1 rfl (fun _ => rfl) ?_
        refine Rg.step 3 F_Mo_bound_2 rfl (fun _ => rfl) ?_
        refine Rg.call 6 F_Mo_bound_3 rfl (one_V rM_26_293 (by decide) (by simp) rfl rfl (gM hp) rfl) (Nat.le_of_ble_eq_true rfl) (c_Mo_dur_yes hp hw h1 (by omega) ha wN d0) ?_
        refine Rg.ifeqP 35 9 F_Mo_bound_6 rfl rfl (fun h6 => absurd trivial h6) (fun _ => ?_)
        refine Rg.step 10 F_Mo_bound_9 rfl (fun _ => rfl) ?_
        refine Rg.getf 13 F_Mo_bound_10 rfl rF_26_189 (gM hp) rfl ?_
        refine Rg.step 14 F_Mo_bound_13 rfl (fun _ => rfl) ?_
        refine Rg.getf 17 F_Mo_bound_14 rfl rF_26_192 (gM hp) rfl ?_
        refine Rg.step 18 F_Mo_bound_17 rfl (fun _ => rfl) ?_
        refine Rg.getf 21 F_Mo_bound_18 rfl rF_26_16 (gM hp) rfl ?_
        refine Rg.step 22 F_Mo_bound_21 rfl (fun _ => rfl) ?_
        refine Rg.getf 25 F_Mo_bound_22 rfl rF_26_21 (gM hp) rfl ?_
        refine Rg.call 28 F_Mo_bound_25 rfl (one_S (by decide +kernel) rM_26_264 (by decide) (by simp) rfl rfl) (Nat.le_of_ble_eq_true rfl) (Cg.any (c_Mo_order (by omega) (by omega) (by omega) (by omega) (by omega) (by omega))) ?_
        rw [e0]
        refine Rg.ifleI 35 31 F_Mo_bound_28 rfl rfl (by omega) (fun h28 => by omega) (fun _ => ?_)
        refine Rg.step 32 F_Mo_bound_31 rfl (fun _ => rfl) ?_
        refine Rg.step 36 F_Mo_bound_32 rfl (fun _ => rfl) ?_
        refine Rg.step 37 F_Mo_bound_36 rfl (fun _ => rfl) ?_
        refine Rg.step 38 F_Mo_bound_37 rfl (fun _ => rfl) ?_
        refine Rg.getf 41 F_Mo_bound_38 rfl rF_26_163 (gM hp) rfl ?_
        refine Rg.step 42 F_Mo_bound_41 rfl (fun _ => rfl) ?_
        refine Rg.step 43 F_Mo_bound_42 rfl (fun _ => rfl) ?_
        refine Rg.ifeqI 53 46 F_Mo_bound_43 rfl rfl (by omega) (fun h43 => by omega) (fun _ => ?_)
        refine Rg.step 47 F_Mo_bound_46 rfl (fun _ => rfl) ?_
        refine Rg.getf 50 F_Mo_bound_47 rfl rF_26_189 (gM hp) rfl ?_
        refine Rg.step 57 F_Mo_bound_50 rfl (fun _ => rfl) ?_
        refine Rg.lst 58 F_Mo_bound_57 rfl (gR_leastN hp) (by decide) (sR_leastN hp) (by omega) (by decide) ?_
        refine Rg.step 59 F_Mo_bound_58 rfl (fun _ => rfl) ?_
        refine Rg.getf 62 F_Mo_bound_59 rfl rF_26_166 (gM hp) rfl ?_
        refine Rg.step 63 F_Mo_bound_62 rfl (fun _ => rfl) ?_
        refine Rg.step 64 F_Mo_bound_63 rfl (fun _ => rfl) ?_
        refine Rg.ifeqI 74 67 F_Mo_bound_64 rfl rfl (by omega) (fun h64 => by omega) (fun _ => ?_)
        refine Rg.step 68 F_Mo_bound_67 rfl (fun _ => rfl) ?_
        refine Rg.getf 71 F_Mo_bound_68 rfl rF_26_192 (gM hp) rfl ?_
        refine Rg.step 78 F_Mo_bound_71 rfl (fun _ => rfl) ?_
        refine Rg.lst 79 F_Mo_bound_78 rfl (gR_leastD hp) (by decide) (sR_leastD hp) (by omega) (by decide) ?_
        refine Rg.step 80 F_Mo_bound_79 rfl (fun _ => rfl) ?_
        refine Rg.step 81 F_Mo_bound_80 rfl (fun _ => rfl) ?_
        refine Rg.step 82 F_Mo_bound_81 rfl (fun _ => rfl) ?_
        refine Rg.call 85 F_Mo_bound_82 rfl (one_V rM_26_293 (by decide) (by simp) rfl rfl (gM hp) rfl) (Nat.le_of_ble_eq_true rfl) (c_Mo_dur_yes hp hw h1 (by omega) ha wN d1) ?_
        refine Rg.step 86 F_Mo_bound_85 rfl (fun _ => rfl) ?_
        refine Rg.step 87 F_Mo_bound_86 rfl (fun _ => rfl) ?_
        refine Rg.getf 90 F_Mo_bound_87 rfl rF_26_169 (gM hp) rfl ?_
        refine Rg.step 91 F_Mo_bound_90 rfl (fun _ => rfl) ?_
        refine Rg.step 92 F_Mo_bound_91 rfl (fun _ => rfl) ?_
        refine Rg.getf 95 F_Mo_bound_92 rfl rF_26_189 (gM hp) rfl ?_
        refine Rg.lst 96 F_Mo_bound_95 rfl (gR_greatestN hp) (by decide) (sR_greatestN hp) (by omega) (by decide) ?_
        refine Rg.step 97 F_Mo_bound_96 rfl (fun _ => rfl) ?_
        refine Rg.getf 100 F_Mo_bound_97 rfl rF_26_172 (gM hp) rfl ?_
        refine Rg.step 101 F_Mo_bound_100 rfl (fun _ => rfl) ?_
        refine Rg.step 102 F_Mo_bound_101 rfl (fun _ => rfl) ?_
        refine Rg.ifeqP 112 105 F_Mo_bound_102 rfl rfl (fun h102 => absurd trivial h102) (fun _ => ?_)
        refine Rg.step 106 F_Mo_bound_105 rfl (fun _ => rfl) ?_
        refine Rg.getf 109 F_Mo_bound_106 rfl rF_26_192 (gM hp) rfl ?_
        refine Rg.step 113 F_Mo_bound_109 rfl (fun _ => rfl) ?_
        refine Rg.lst 114 F_Mo_bound_113 rfl (gR_greatestD hp) (by decide) (sR_greatestD hp) (by omega) (by decide) ?_
        exact Rg.retV F_Mo_bound_114 rfl rfl
    · by_cases d1 : lastOf (2 * triedAction s + 1) = -2
      · skip
        refine ⟨(nN (durP numN lastOf lastN (2 * triedAction s + 0)) (durP numD lastOf lastD (2 * triedAction s + 0))), (nD (durP numN lastOf lastN (2 * triedAction s + 0)) (durP numD lastOf lastD (2 * triedAction s + 0))), (nN (durP numN lastOf lastN (2 * triedAction s + 0)) (durP numD lastOf lastD (2 * triedAction s + 0))), fun z => absurd (by unfold gbD; rw [if_pos d1]) z, ?_⟩
        rw [show (lbN lastOf lastN lastD epsilonN epsilonD numN numD (triedAction s)) = epsilonN by unfold lbN; rw [if_neg d0, if_neg c0], show (lbD lastOf lastN lastD epsilonN epsilonD numN numD (triedAction s)) = epsilonD by unfold lbD; rw [if_neg d0, if_neg c0]]
        rw [show (gbD lastOf lastN lastD numN numD (triedAction s)) = 0 by unfold gbD; rw [if_pos d1]]
        refine Cg.of (Nat.le_of_ble_eq_true rfl) ?_
        change Rg _ _ _ _ 0 [(0, .ref 168), (1, .int (iI s))] [] _ _ _
        refine Rg.step 1 F_Mo_bound_0 rfl (fun _ => rfl) ?_
        refine Rg.step 2 F_Mo_bound_1 rfl (fun _ => rfl) ?_
        refine Rg.step 3 F_Mo_bound_2 rfl (fun _ => rfl) ?_
        refine Rg.call 6 F_Mo_bound_3 rfl (one_V rM_26_293 (by decide) (by simp) rfl rfl (gM hp) rfl) (Nat.le_of_ble_eq_true rfl) (c_Mo_dur_yes hp hw h1 (by omega) ha wN d0) ?_
        refine Rg.ifeqP 35 9 F_Mo_bound_6 rfl rfl (fun h6 => absurd trivial h6) (fun _ => ?_)
        refine Rg.step 10 F_Mo_bound_9 rfl (fun _ => rfl) ?_
        refine Rg.getf 13 F_Mo_bound_10 rfl rF_26_189 (gM hp) rfl ?_
        refine Rg.step 14 F_Mo_bound_13 rfl (fun _ => rfl) ?_
        refine Rg.getf 17 F_Mo_bound_14 rfl rF_26_192 (gM hp) rfl ?_
        refine Rg.step 18 F_Mo_bound_17 rfl (fun _ => rfl) ?_
        refine Rg.getf 21 F_Mo_bound_18 rfl rF_26_16 (gM hp) rfl ?_
        refine Rg.step 22 F_Mo_bound_21 rfl (fun _ => rfl) ?_
        refine Rg.getf 25 F_Mo_bound_22 rfl rF_26_21 (gM hp) rfl ?_
        refine Rg.call 28 F_Mo_bound_25 rfl (one_S (by decide +kernel) rM_26_264 (by decide) (by simp) rfl rfl) (Nat.le_of_ble_eq_true rfl) (Cg.any (c_Mo_order (by omega) (by omega) (by omega) (by omega) (by omega) (by omega))) ?_
        rw [e0]
        refine Rg.ifleI 35 31 F_Mo_bound_28 rfl rfl (by omega) (fun _ => ?_) (fun h28 => by omega)
        refine Rg.step 36 F_Mo_bound_35 rfl (fun _ => rfl) ?_
        refine Rg.step 37 F_Mo_bound_36 rfl (fun _ => rfl) ?_
        refine Rg.step 38 F_Mo_bound_37 rfl (fun _ => rfl) ?_
        refine Rg.getf 41 F_Mo_bound_38 rfl rF_26_163 (gM hp) rfl ?_
        refine Rg.step 42 F_Mo_bound_41 rfl (fun _ => rfl) ?_
        refine Rg.step 43 F_Mo_bound_42 rfl (fun _ => rfl) ?_
        refine Rg.ifeqI 53 46 F_Mo_bound_43 rfl rfl (by omega) (fun _ => ?_) (fun h43 => by omega)
        refine Rg.step 54 F_Mo_bound_53 rfl (fun _ => rfl) ?_
        refine Rg.getf 57 F_Mo_bound_54 rfl rF_26_16 (gM hp) rfl ?_
        refine Rg.lst 58 F_Mo_bound_57 rfl (gR_leastN hp) (by decide) (sR_leastN hp) (by omega) (by decide) ?_
        refine Rg.step 59 F_Mo_bound_58 rfl (fun _ => rfl) ?_
        refine Rg.getf 62 F_Mo_bound_59 rfl rF_26_166 (gM hp) rfl ?_
        refine Rg.step 63 F_Mo_bound_62 rfl (fun _ => rfl) ?_
        refine Rg.step 64 F_Mo_bound_63 rfl (fun _ => rfl) ?_
        refine Rg.ifeqI 74 67 F_Mo_bound_64 rfl rfl (by omega) (fun _ => ?_) (fun h64 => by omega)
        refine Rg.step 75 F_Mo_bound_74 rfl (fun _ => rfl) ?_
        refine Rg.getf 78 F_Mo_bound_75 rfl rF_26_21 (gM hp) rfl ?_
        refine Rg.lst 79 F_Mo_bound_78 rfl (gR_leastD hp) (by decide) (sR_leastD hp) (by omega) (by decide) ?_
        refine Rg.step 80 F_Mo_bound_79 rfl (fun _ => rfl) ?_
        refine Rg.step 81 F_Mo_bound_80 rfl (fun _ => rfl) ?_
        refine Rg.step 82 F_Mo_bound_81 rfl (fun _ => rfl) ?_
        refine Rg.call 85 F_Mo_bound_82 rfl (one_V rM_26_293 (by decide) (by simp) rfl rfl (gM hp) rfl) (Nat.le_of_ble_eq_true rfl) (Cg.any (c_Mo_dur_no hp hw h1 (by omega) ha d1)) ?_
        refine Rg.step 86 F_Mo_bound_85 rfl (fun _ => rfl) ?_
        refine Rg.step 87 F_Mo_bound_86 rfl (fun _ => rfl) ?_
        refine Rg.getf 90 F_Mo_bound_87 rfl rF_26_169 (gM hp) rfl ?_
        refine Rg.step 91 F_Mo_bound_90 rfl (fun _ => rfl) ?_
        refine Rg.step 92 F_Mo_bound_91 rfl (fun _ => rfl) ?_
        refine Rg.getf 95 F_Mo_bound_92 rfl rF_26_189 (gM hp) rfl ?_
        refine Rg.lst 96 F_Mo_bound_95 rfl (gR_greatestN hp) (by decide) (sR_greatestN hp) (by omega) (by decide) ?_
        refine Rg.step 97 F_Mo_bound_96 rfl (fun _ => rfl) ?_
        refine Rg.getf 100 F_Mo_bound_97 rfl rF_26_172 (gM hp) rfl ?_
        refine Rg.step 101 F_Mo_bound_100 rfl (fun _ => rfl) ?_
        refine Rg.step 102 F_Mo_bound_101 rfl (fun _ => rfl) ?_
        refine Rg.ifeqP 112 105 F_Mo_bound_102 rfl rfl (fun _ => ?_) (fun h102 => absurd h102 (fun z => z))
        refine Rg.lcn (n := 0) 113 F_Mo_bound_112 rfl rfl ?_
        refine Rg.lst 114 F_Mo_bound_113 rfl (gR_greatestD hp) (by decide) (sR_greatestD hp) (by omega) (by decide) ?_
        exact Rg.retV F_Mo_bound_114 rfl rfl
      · skip
        refine ⟨(nN (durP numN lastOf lastN (2 * triedAction s + 1)) (durP numD lastOf lastD (2 * triedAction s + 1))), (nD (durP numN lastOf lastN (2 * triedAction s + 1)) (durP numD lastOf lastD (2 * triedAction s + 1))), (nN (durP numN lastOf lastN (2 * triedAction s + 1)) (durP numD lastOf lastD (2 * triedAction s + 1))), fun _ => rfl, ?_⟩
        rw [show (lbN lastOf lastN lastD epsilonN epsilonD numN numD (triedAction s)) = epsilonN by unfold lbN; rw [if_neg d0, if_neg c0], show (lbD lastOf lastN lastD epsilonN epsilonD numN numD (triedAction s)) = epsilonD by unfold lbD; rw [if_neg d0, if_neg c0]]
        rw [show (gbD lastOf lastN lastD numN numD (triedAction s)) = (nD (durP numN lastOf lastN (2 * triedAction s + 1)) (durP numD lastOf lastD (2 * triedAction s + 1))) by unfold gbD; rw [if_neg d1]]
        refine Cg.of (Nat.le_of_ble_eq_true rfl) ?_
        change Rg _ _ _ _ 0 [(0, .ref 168), (1, .int (iI s))] [] _ _ _
        refine Rg.step 1 F_Mo_bound_0 rfl (fun _ => rfl) ?_
        refine Rg.step 2 F_Mo_bound_1 rfl (fun _ => rfl) ?_
        refine Rg.step 3 F_Mo_bound_2 rfl (fun _ => rfl) ?_
        refine Rg.call 6 F_Mo_bound_3 rfl (one_V rM_26_293 (by decide) (by simp) rfl rfl (gM hp) rfl) (Nat.le_of_ble_eq_true rfl) (c_Mo_dur_yes hp hw h1 (by omega) ha wN d0) ?_
        refine Rg.ifeqP 35 9 F_Mo_bound_6 rfl rfl (fun h6 => absurd trivial h6) (fun _ => ?_)
        refine Rg.step 10 F_Mo_bound_9 rfl (fun _ => rfl) ?_
        refine Rg.getf 13 F_Mo_bound_10 rfl rF_26_189 (gM hp) rfl ?_
        refine Rg.step 14 F_Mo_bound_13 rfl (fun _ => rfl) ?_
        refine Rg.getf 17 F_Mo_bound_14 rfl rF_26_192 (gM hp) rfl ?_
        refine Rg.step 18 F_Mo_bound_17 rfl (fun _ => rfl) ?_
        refine Rg.getf 21 F_Mo_bound_18 rfl rF_26_16 (gM hp) rfl ?_
        refine Rg.step 22 F_Mo_bound_21 rfl (fun _ => rfl) ?_
        refine Rg.getf 25 F_Mo_bound_22 rfl rF_26_21 (gM hp) rfl ?_
        refine Rg.call 28 F_Mo_bound_25 rfl (one_S (by decide +kernel) rM_26_264 (by decide) (by simp) rfl rfl) (Nat.le_of_ble_eq_true rfl) (Cg.any (c_Mo_order (by omega) (by omega) (by omega) (by omega) (by omega) (by omega))) ?_
        rw [e0]
        refine Rg.ifleI 35 31 F_Mo_bound_28 rfl rfl (by omega) (fun _ => ?_) (fun h28 => by omega)
        refine Rg.step 36 F_Mo_bound_35 rfl (fun _ => rfl) ?_
        refine Rg.step 37 F_Mo_bound_36 rfl (fun _ => rfl) ?_
        refine Rg.step 38 F_Mo_bound_37 rfl (fun _ => rfl) ?_
        refine Rg.getf 41 F_Mo_bound_38 rfl rF_26_163 (gM hp) rfl ?_
        refine Rg.step 42 F_Mo_bound_41 rfl (fun _ => rfl) ?_
        refine Rg.step 43 F_Mo_bound_42 rfl (fun _ => rfl) ?_
        refine Rg.ifeqI 53 46 F_Mo_bound_43 rfl rfl (by omega) (fun _ => ?_) (fun h43 => by omega)
        refine Rg.step 54 F_Mo_bound_53 rfl (fun _ => rfl) ?_
        refine Rg.getf 57 F_Mo_bound_54 rfl rF_26_16 (gM hp) rfl ?_
        refine Rg.lst 58 F_Mo_bound_57 rfl (gR_leastN hp) (by decide) (sR_leastN hp) (by omega) (by decide) ?_
        refine Rg.step 59 F_Mo_bound_58 rfl (fun _ => rfl) ?_
        refine Rg.getf 62 F_Mo_bound_59 rfl rF_26_166 (gM hp) rfl ?_
        refine Rg.step 63 F_Mo_bound_62 rfl (fun _ => rfl) ?_
        refine Rg.step 64 F_Mo_bound_63 rfl (fun _ => rfl) ?_
        refine Rg.ifeqI 74 67 F_Mo_bound_64 rfl rfl (by omega) (fun _ => ?_) (fun h64 => by omega)
        refine Rg.step 75 F_Mo_bound_74 rfl (fun _ => rfl) ?_
        refine Rg.getf 78 F_Mo_bound_75 rfl rF_26_21 (gM hp) rfl ?_
        refine Rg.lst 79 F_Mo_bound_78 rfl (gR_leastD hp) (by decide) (sR_leastD hp) (by omega) (by decide) ?_
        refine Rg.step 80 F_Mo_bound_79 rfl (fun _ => rfl) ?_
        refine Rg.step 81 F_Mo_bound_80 rfl (fun _ => rfl) ?_
        refine Rg.step 82 F_Mo_bound_81 rfl (fun _ => rfl) ?_
        refine Rg.call 85 F_Mo_bound_82 rfl (one_V rM_26_293 (by decide) (by simp) rfl rfl (gM hp) rfl) (Nat.le_of_ble_eq_true rfl) (c_Mo_dur_yes hp hw h1 (by omega) ha wN d1) ?_
        refine Rg.step 86 F_Mo_bound_85 rfl (fun _ => rfl) ?_
        refine Rg.step 87 F_Mo_bound_86 rfl (fun _ => rfl) ?_
        refine Rg.getf 90 F_Mo_bound_87 rfl rF_26_169 (gM hp) rfl ?_
        refine Rg.step 91 F_Mo_bound_90 rfl (fun _ => rfl) ?_
        refine Rg.step 92 F_Mo_bound_91 rfl (fun _ => rfl) ?_
        refine Rg.getf 95 F_Mo_bound_92 rfl rF_26_189 (gM hp) rfl ?_
        refine Rg.lst 96 F_Mo_bound_95 rfl (gR_greatestN hp) (by decide) (sR_greatestN hp) (by omega) (by decide) ?_
        refine Rg.step 97 F_Mo_bound_96 rfl (fun _ => rfl) ?_
        refine Rg.getf 100 F_Mo_bound_97 rfl rF_26_172 (gM hp) rfl ?_
        refine Rg.step 101 F_Mo_bound_100 rfl (fun _ => rfl) ?_
        refine Rg.step 102 F_Mo_bound_101 rfl (fun _ => rfl) ?_
        refine Rg.ifeqP 112 105 F_Mo_bound_102 rfl rfl (fun h102 => absurd trivial h102) (fun _ => ?_)
        refine Rg.step 106 F_Mo_bound_105 rfl (fun _ => rfl) ?_
        refine Rg.getf 109 F_Mo_bound_106 rfl rF_26_192 (gM hp) rfl ?_
        refine Rg.step 113 F_Mo_bound_109 rfl (fun _ => rfl) ?_
        refine Rg.lst 114 F_Mo_bound_113 rfl (gR_greatestD hp) (by decide) (sR_greatestD hp) (by omega) (by decide) ?_
        exact Rg.retV F_Mo_bound_114 rfl rfl
theorem bn_bd (hw : WT epsilonN epsilonD wishes wants wantN wantD actions needs needTime needOf needHow needN needD changes changeTime changeOf changeHow changeN changeD lastOf lastN lastD firstN firstD) (wN : WN numN numD) {s : Int} (ha : 0 ≤ triedAction s ∧ triedAction s < actions) : bdB ((lbN lastOf lastN lastD epsilonN epsilonD numN numD (triedAction s)), (lbD lastOf lastN lastD epsilonN epsilonD numN numD (triedAction s)), (gbN lastOf lastN lastD numN numD (triedAction s)), (gbD lastOf lastN lastD numN numD (triedAction s))) := by
  obtain ⟨wE, -, -, -, -, -, -, -, -, -, -, -, -, -, -, -, -, -, -, -, -⟩ := id hw
  refine ⟨?_, ?_, ?_⟩
  · show 0 < (lbN lastOf lastN lastD epsilonN epsilonD numN numD (triedAction s)) ∧ (lbN lastOf lastN lastD epsilonN epsilonD numN numD (triedAction s)) ≤ 100000000000000 ∧ 0 < (lbD lastOf lastN lastD epsilonN epsilonD numN numD (triedAction s)) ∧ (lbD lastOf lastN lastD epsilonN epsilonD numN numD (triedAction s)) ≤ 1000000000000
    unfold lbN lbD
    by_cases d0 : lastOf (2 * triedAction s + 0) = -2
    · rw [if_pos d0, if_pos d0]
      omega
    · rw [if_neg d0, if_neg d0]
      have b0 := dur_bd hw wN (which := 0) (by omega) ha d0
      have n0 := nN_bd (B := 100000000000000) b0.2.2.1 ⟨b0.1, b0.2.1⟩
      have q0 := nD_pos (n := (durP numN lastOf lastN (2 * triedAction s + 0))) b0.2.2.1
      have e0 := cmpF_red (m := epsilonN) (e := epsilonD) (n := (durP numN lastOf lastN (2 * triedAction s + 0))) b0.2.2.1
      have f0 := cmpF_b (durP numN lastOf lastN (2 * triedAction s + 0)) (durP numD lastOf lastD (2 * triedAction s + 0)) epsilonN epsilonD
      by_cases c0 : 0 < cmpF (durP numN lastOf lastN (2 * triedAction s + 0)) (durP numD lastOf lastD (2 * triedAction s + 0)) epsilonN epsilonD
      · rw [if_pos c0, if_pos c0]
        have p0 : 0 < (nN (durP numN lastOf lastN (2 * triedAction s + 0)) (durP numD lastOf lastD (2 * triedAction s + 0))) := by
          rw [← e0] at c0
          have c1 : ¬ cmpF (nN (durP numN lastOf lastN (2 * triedAction s + 0)) (durP numD lastOf lastD (2 * triedAction s + 0))) (nD (durP numN lastOf lastN (2 * triedAction s + 0)) (durP numD lastOf lastD (2 * triedAction s + 0))) epsilonN epsilonD ≤ 0 := by omega
          have c2 : ¬ leF (nN (durP numN lastOf lastN (2 * triedAction s + 0)) (durP numD lastOf lastD (2 * triedAction s + 0))) (nD (durP numN lastOf lastN (2 * triedAction s + 0)) (durP numD lastOf lastD (2 * triedAction s + 0))) epsilonN epsilonD := fun z => c1 (cmpF_le.mpr z)
          unfold leF at c2
          refine Classical.byContradiction (fun z => c2 ?_)
          have y1 := Int.mul_nonpos_of_nonpos_of_nonneg (a := (nN (durP numN lastOf lastN (2 * triedAction s + 0)) (durP numD lastOf lastD (2 * triedAction s + 0)))) (b := epsilonD) (by omega) (by omega)
          have y2 := Int.mul_nonneg (a := epsilonN) (b := (nD (durP numN lastOf lastN (2 * triedAction s + 0)) (durP numD lastOf lastD (2 * triedAction s + 0)))) (by omega) (by omega)
          omega
        omega
      · rw [if_neg c0, if_neg c0]
        omega
  · show 0 ≤ (gbD lastOf lastN lastD numN numD (triedAction s)) ∧ (gbD lastOf lastN lastD numN numD (triedAction s)) ≤ 1000000000000
    unfold gbD
    by_cases d1 : lastOf (2 * triedAction s + 1) = -2
    · rw [if_pos d1]
      omega
    · rw [if_neg d1]
      have b1 := dur_bd hw wN (which := 1) (by omega) ha d1
      have q1 := nD_pos (n := (durP numN lastOf lastN (2 * triedAction s + 1))) b1.2.2.1
      omega
  · show ¬ (gbD lastOf lastN lastD numN numD (triedAction s)) = 0 → -100000000000000 ≤ (gbN lastOf lastN lastD numN numD (triedAction s)) ∧ (gbN lastOf lastN lastD numN numD (triedAction s)) ≤ 100000000000000
    intro hz
    have d1 : ¬ lastOf (2 * triedAction s + 1) = -2 := fun z => hz (by unfold gbD; rw [if_pos z])
    have b1 := dur_bd hw wN (which := 1) (by omega) ha d1
    have n1 := nN_bd (B := 100000000000000) b1.2.2.1 ⟨b1.1, b1.2.1⟩
    unfold gbN
    exact n1
theorem walk_over {d n0 : Nat} (hp : pre.length = 168) (hw : WT epsilonN epsilonD wishes wants wantN wantD actions needs needTime needOf needHow needN needD changes changeTime changeOf changeHow changeN changeD lastOf lastN lastD firstN firstD) (wU : 0 ≤ tried ∧ tried ≤ 12) (hact : ∀ s, 0 ≤ s → s < tried → 0 ≤ triedAction s ∧ triedAction s < actions) (wN : WN numN numD) {k : Int} : ∀ (n : Nat) (j x : Int), j + n = tried → 0 ≤ j → (∀ r, j ≤ r → r < tried → ¬ (badS (fun S s t => fit needs needTime needOf needHow needN needD S.1 S.2.1 S.2.2 (triedAction s) t) gone (facts, numN, numD) r)) → ∃ x1, ∀ o mem1, Rg false (d + 5) m_Mo_walk n0 175 [(1, .int (iI k)), (0, .ref 168)] [] (MR pre code amountN amountD momentN momentD epsilonN epsilonD firstFacts firstN firstD wishes wants wantN wantD actions needs needTime needOf needHow needN needD changes changeTime changeOf changeHow changeN changeD lastOf lastN lastD steps stepAction startN startD lengthN lengthD rows row tried triedAction triedRows triedRow times unit facts numN numD oldFacts oldN oldD x1 judged fault faultPoint toldFacts toldN toldD outN outD pointN pointD gone now leastN leastD greatestN greatestD events post) o mem1 → Rg false (d + 5) m_Mo_walk n0 119 [(2, .int (iI j)), (1, .int (iI k)), (0, .ref 168)] [] (MR pre code amountN amountD momentN momentD epsilonN epsilonD firstFacts firstN firstD wishes wants wantN wantD actions needs needTime needOf needHow needN needD changes changeTime changeOf changeHow changeN changeD lastOf lastN lastD steps stepAction startN startD lengthN lengthD rows row tried triedAction triedRows triedRow times unit facts numN numD oldFacts oldN oldD x judged fault faultPoint toldFacts toldN toldD outN outD pointN pointD gone now leastN leastD greatestN greatestD events post) o mem1 := by
  intro n
  induction n with
  | zero =>
    intro j x hj hj2 hn
    refine ⟨x, fun o mem1 hg => ?_⟩
    refine Rg.step 120 F_Mo_walk_119 rfl (fun _ => rfl) ?_
    refine Rg.step 121 F_Mo_walk_120 rfl (fun _ => rfl) ?_
    refine Rg.getf 124 F_Mo_walk_121 rfl rF_26_280 (gM hp) rfl ?_
    refine Rg.icgeI 175 127 F_Mo_walk_124 rfl rfl (by omega) (by omega) (fun _ => ?_) (fun h124 => by omega)
    exact Rg.weak hg (by simp [lput1, lput2, Value.category, fi0, fi1, fi2, fi3] <;> first | rfl | exact ⟨rfl, rfl⟩) (by simp [lput1, lput2, Value.category, fi0, fi1, fi2, fi3] <;> first | rfl | exact ⟨rfl, rfl⟩)
  | succ n ih =>
    intro j x hj hj2 hn
    have a1 := hact j (by omega) (by omega)
    obtain ⟨x1, ht⟩ := ih (j + 1) (2 * j) (by omega) (by omega) (fun r z1 z2 => hn r (by omega) z2)
    refine ⟨x1, fun o mem1 hg => ?_⟩
    refine Rg.step 120 F_Mo_walk_119 rfl (fun _ => rfl) ?_
    refine Rg.step 121 F_Mo_walk_120 rfl (fun _ => rfl) ?_
    refine Rg.getf 124 F_Mo_walk_121 rfl rF_26_280 (gM hp) rfl ?_
    refine Rg.icgeI 175 127 F_Mo_walk_124 rfl rfl (by omega) (by omega) (fun h124 => by omega) (fun _ => ?_)
    refine Rg.step 128 F_Mo_walk_127 rfl (fun _ => rfl) ?_
    refine Rg.step 129 F_Mo_walk_128 rfl (fun _ => rfl) ?_
    refine Rg.step 130 F_Mo_walk_129 rfl (fun _ => rfl) ?_
    refine Rg.mulI 131 F_Mo_walk_130 rfl ?_
    refine Rg.put 134 F_Mo_walk_131 rfl rF_26_305 (gM hp) (by decide) (Nat.le_of_ble_eq_true rfl) (Or.inl rfl) rfl (sM_point hp) ?_
    refine Rg.step 135 F_Mo_walk_134 rfl (fun _ => rfl) ?_
    refine Rg.getf 138 F_Mo_walk_135 rfl rF_26_157 (gM hp) rfl ?_
    refine Rg.step 139 F_Mo_walk_138 rfl (fun _ => rfl) ?_
    refine Rg.step 140 F_Mo_walk_139 rfl (fun _ => rfl) ?_
    refine Rg.mulI 141 F_Mo_walk_140 rfl ?_
    refine Rg.zld 142 F_Mo_walk_141 rfl (gR_gone hp) (by omega) (by decide) ?_
    refine Rg.ifeqP 169 145 F_Mo_walk_142 rfl rfl (fun h142 => ?_) (fun h142 => ?_)
    · refine Rg.inc 172 F_Mo_walk_169 rfl rfl (by decide) ?_
      refine Rg.step 119 F_Mo_walk_172 rfl (fun _ => rfl) ?_
      exact Rg.weak (ht o mem1 hg) (by simp [lput1, lput2, Value.category, fi0, fi1, fi2, fi3] <;> first | rfl | exact ⟨rfl, rfl⟩) (by simp [lput1, lput2, Value.category, fi0, fi1, fi2, fi3] <;> first | rfl | exact ⟨rfl, rfl⟩)
    · refine Rg.step 146 F_Mo_walk_145 rfl (fun _ => rfl) ?_
      refine Rg.getf 149 F_Mo_walk_146 rfl rF_26_157 (gM hp) rfl ?_
      refine Rg.step 150 F_Mo_walk_149 rfl (fun _ => rfl) ?_
      refine Rg.step 151 F_Mo_walk_150 rfl (fun _ => rfl) ?_
      refine Rg.mulI 152 F_Mo_walk_151 rfl ?_
      refine Rg.step 153 F_Mo_walk_152 rfl (fun _ => rfl) ?_
      refine Rg.addI 154 F_Mo_walk_153 rfl ?_
      refine Rg.zld 155 F_Mo_walk_154 rfl (gR_gone hp) (by omega) (by decide) ?_
      refine Rg.ifneP 169 158 F_Mo_walk_155 rfl rfl (fun h155 => ?_) (fun h155 => ?_)
      · refine Rg.inc 172 F_Mo_walk_169 rfl rfl (by decide) ?_
        refine Rg.step 119 F_Mo_walk_172 rfl (fun _ => rfl) ?_
        exact Rg.weak (ht o mem1 hg) (by simp [lput1, lput2, Value.category, fi0, fi1, fi2, fi3] <;> first | rfl | exact ⟨rfl, rfl⟩) (by simp [lput1, lput2, Value.category, fi0, fi1, fi2, fi3] <;> first | rfl | exact ⟨rfl, rfl⟩)
      · refine Rg.step 159 F_Mo_walk_158 rfl (fun _ => rfl) ?_
        refine Rg.step 160 F_Mo_walk_159 rfl (fun _ => rfl) ?_
        refine Rg.step 161 F_Mo_walk_160 rfl (fun _ => rfl) ?_
        refine Rg.call 164 F_Mo_walk_161 rfl (one_V rM_26_299 (by decide) (by simp) rfl rfl (gM hp) rfl) (Nat.le_of_ble_eq_true rfl) (Cg.any (c_Mo_isFit hp hw wN (by omega) a1 (by omega))) ?_
        refine Rg.ifneP 169 167 F_Mo_walk_164 rfl rfl (fun h164 => ?_) (fun h164 => ?_)
        · refine Rg.inc 172 F_Mo_walk_169 rfl rfl (by decide) ?_
          refine Rg.step 119 F_Mo_walk_172 rfl (fun _ => rfl) ?_
          exact Rg.weak (ht o mem1 hg) (by simp [lput1, lput2, Value.category, fi0, fi1, fi2, fi3] <;> first | rfl | exact ⟨rfl, rfl⟩) (by simp [lput1, lput2, Value.category, fi0, fi1, fi2, fi3] <;> first | rfl | exact ⟨rfl, rfl⟩)
        · refine Rg.step 168 F_Mo_walk_167 rfl (fun _ => rfl) ?_
          exact absurd (show (badS (fun S s t => fit needs needTime needOf needHow needN needD S.1 S.2.1 S.2.2 (triedAction s) t) gone (facts, numN, numD) j) from ⟨h142, h155, h164⟩) (hn j (by omega) (by omega))
theorem walk_over5 {d n0 : Nat} (hp : pre.length = 168) (hw : WT epsilonN epsilonD wishes wants wantN wantD actions needs needTime needOf needHow needN needD changes changeTime changeOf changeHow changeN changeD lastOf lastN lastD firstN firstD) (wU : 0 ≤ tried ∧ tried ≤ 12) (hact : ∀ s, 0 ≤ s → s < tried → 0 ≤ triedAction s ∧ triedAction s < actions) (wN : WN numN numD) {k s : Int} (hs : s < tried) (hB : (badS (fun S s t => fit needs needTime needOf needHow needN needD S.1 S.2.1 S.2.2 (triedAction s) t) gone (facts, numN, numD) s)) : ∀ (n : Nat) (j x : Int), j + n = s → 0 ≤ j → (∀ r, j ≤ r → r < s → ¬ (badS (fun S s t => fit needs needTime needOf needHow needN needD S.1 S.2.1 S.2.2 (triedAction s) t) gone (facts, numN, numD) r)) → Rg false (d + 5) m_Mo_walk n0 119 [(2, .int (iI j)), (1, .int (iI k)), (0, .ref 168)] [] (MR pre code amountN amountD momentN momentD epsilonN epsilonD firstFacts firstN firstD wishes wants wantN wantD actions needs needTime needOf needHow needN needD changes changeTime changeOf changeHow changeN changeD lastOf lastN lastD steps stepAction startN startD lengthN lengthD rows row tried triedAction triedRows triedRow times unit facts numN numD oldFacts oldN oldD x judged fault faultPoint toldFacts toldN toldD outN outD pointN pointD gone now leastN leastD greatestN greatestD events post) (.inl (some (.int (iI 5)))) (MR pre code amountN amountD momentN momentD epsilonN epsilonD firstFacts firstN firstD wishes wants wantN wantD actions needs needTime needOf needHow needN needD changes changeTime changeOf changeHow changeN changeD lastOf lastN lastD steps stepAction startN startD lengthN lengthD rows row tried triedAction triedRows triedRow times unit facts numN numD oldFacts oldN oldD (2 * s) judged fault faultPoint toldFacts toldN toldD outN outD pointN pointD gone now leastN leastD greatestN greatestD events post) := by
  intro n
  induction n with
  | zero =>
    intro j x hj hj2 hn
    have hj : j = s := by omega
    subst hj
    have a1 := hact j (by omega) (by omega)
    refine Rg.step 120 F_Mo_walk_119 rfl (fun _ => rfl) ?_
    refine Rg.step 121 F_Mo_walk_120 rfl (fun _ => rfl) ?_
    refine Rg.getf 124 F_Mo_walk_121 rfl rF_26_280 (gM hp) rfl ?_
    refine Rg.icgeI 175 127 F_Mo_walk_124 rfl rfl (by omega) (by omega) (fun h124 => by omega) (fun _ => ?_)
    refine Rg.step 128 F_Mo_walk_127 rfl (fun _ => rfl) ?_
    refine Rg.step 129 F_Mo_walk_128 rfl (fun _ => rfl) ?_
    refine Rg.step 130 F_Mo_walk_129 rfl (fun _ => rfl) ?_
    refine Rg.mulI 131 F_Mo_walk_130 rfl ?_
    refine Rg.put 134 F_Mo_walk_131 rfl rF_26_305 (gM hp) (by decide) (Nat.le_of_ble_eq_true rfl) (Or.inl rfl) rfl (sM_point hp) ?_
    refine Rg.step 135 F_Mo_walk_134 rfl (fun _ => rfl) ?_
    refine Rg.getf 138 F_Mo_walk_135 rfl rF_26_157 (gM hp) rfl ?_
    refine Rg.step 139 F_Mo_walk_138 rfl (fun _ => rfl) ?_
    refine Rg.step 140 F_Mo_walk_139 rfl (fun _ => rfl) ?_
    refine Rg.mulI 141 F_Mo_walk_140 rfl ?_
    refine Rg.zld 142 F_Mo_walk_141 rfl (gR_gone hp) (by omega) (by decide) ?_
    refine Rg.ifeqP 169 145 F_Mo_walk_142 rfl rfl (fun h142 => absurd hB.1 h142) (fun _ => ?_)
    refine Rg.step 146 F_Mo_walk_145 rfl (fun _ => rfl) ?_
    refine Rg.getf 149 F_Mo_walk_146 rfl rF_26_157 (gM hp) rfl ?_
    refine Rg.step 150 F_Mo_walk_149 rfl (fun _ => rfl) ?_
    refine Rg.step 151 F_Mo_walk_150 rfl (fun _ => rfl) ?_
    refine Rg.mulI 152 F_Mo_walk_151 rfl ?_
    refine Rg.step 153 F_Mo_walk_152 rfl (fun _ => rfl) ?_
    refine Rg.addI 154 F_Mo_walk_153 rfl ?_
    refine Rg.zld 155 F_Mo_walk_154 rfl (gR_gone hp) (by omega) (by decide) ?_
    refine Rg.ifneP 169 158 F_Mo_walk_155 rfl rfl (fun h155 => absurd h155 hB.2.1) (fun _ => ?_)
    refine Rg.step 159 F_Mo_walk_158 rfl (fun _ => rfl) ?_
    refine Rg.step 160 F_Mo_walk_159 rfl (fun _ => rfl) ?_
    refine Rg.step 161 F_Mo_walk_160 rfl (fun _ => rfl) ?_
    refine Rg.call 164 F_Mo_walk_161 rfl (one_V rM_26_299 (by decide) (by simp) rfl rfl (gM hp) rfl) (Nat.le_of_ble_eq_true rfl) (Cg.any (c_Mo_isFit hp hw wN (by omega) a1 (by omega))) ?_
    refine Rg.ifneP 169 167 F_Mo_walk_164 rfl rfl (fun h164 => absurd h164 hB.2.2) (fun _ => ?_)
    refine Rg.step 168 F_Mo_walk_167 rfl (fun _ => rfl) ?_
    exact Rg.retI F_Mo_walk_168 rfl rfl rfl
  | succ n ih =>
    intro j x hj hj2 hn
    have a1 := hact j (by omega) (by omega)
    refine Rg.step 120 F_Mo_walk_119 rfl (fun _ => rfl) ?_
    refine Rg.step 121 F_Mo_walk_120 rfl (fun _ => rfl) ?_
    refine Rg.getf 124 F_Mo_walk_121 rfl rF_26_280 (gM hp) rfl ?_
    refine Rg.icgeI 175 127 F_Mo_walk_124 rfl rfl (by omega) (by omega) (fun h124 => by omega) (fun _ => ?_)
    refine Rg.step 128 F_Mo_walk_127 rfl (fun _ => rfl) ?_
    refine Rg.step 129 F_Mo_walk_128 rfl (fun _ => rfl) ?_
    refine Rg.step 130 F_Mo_walk_129 rfl (fun _ => rfl) ?_
    refine Rg.mulI 131 F_Mo_walk_130 rfl ?_
    refine Rg.put 134 F_Mo_walk_131 rfl rF_26_305 (gM hp) (by decide) (Nat.le_of_ble_eq_true rfl) (Or.inl rfl) rfl (sM_point hp) ?_
    refine Rg.step 135 F_Mo_walk_134 rfl (fun _ => rfl) ?_
    refine Rg.getf 138 F_Mo_walk_135 rfl rF_26_157 (gM hp) rfl ?_
    refine Rg.step 139 F_Mo_walk_138 rfl (fun _ => rfl) ?_
    refine Rg.step 140 F_Mo_walk_139 rfl (fun _ => rfl) ?_
    refine Rg.mulI 141 F_Mo_walk_140 rfl ?_
    refine Rg.zld 142 F_Mo_walk_141 rfl (gR_gone hp) (by omega) (by decide) ?_
    refine Rg.ifeqP 169 145 F_Mo_walk_142 rfl rfl (fun h142 => ?_) (fun h142 => ?_)
    · refine Rg.inc 172 F_Mo_walk_169 rfl rfl (by decide) ?_
      refine Rg.step 119 F_Mo_walk_172 rfl (fun _ => rfl) ?_
      exact Rg.weak (ih (j + 1) (2 * j) (by omega) (by omega) (fun r z1 z2 => hn r (by omega) z2)) (by simp [lput1, lput2, Value.category, fi0, fi1, fi2, fi3] <;> first | rfl | exact ⟨rfl, rfl⟩) (by simp [lput1, lput2, Value.category, fi0, fi1, fi2, fi3] <;> first | rfl | exact ⟨rfl, rfl⟩)
    · refine Rg.step 146 F_Mo_walk_145 rfl (fun _ => rfl) ?_
      refine Rg.getf 149 F_Mo_walk_146 rfl rF_26_157 (gM hp) rfl ?_
      refine Rg.step 150 F_Mo_walk_149 rfl (fun _ => rfl) ?_
      refine Rg.step 151 F_Mo_walk_150 rfl (fun _ => rfl) ?_
      refine Rg.mulI 152 F_Mo_walk_151 rfl ?_
      refine Rg.step 153 F_Mo_walk_152 rfl (fun _ => rfl) ?_
      refine Rg.addI 154 F_Mo_walk_153 rfl ?_
      refine Rg.zld 155 F_Mo_walk_154 rfl (gR_gone hp) (by omega) (by decide) ?_
      refine Rg.ifneP 169 158 F_Mo_walk_155 rfl rfl (fun h155 => ?_) (fun h155 => ?_)
      · refine Rg.inc 172 F_Mo_walk_169 rfl rfl (by decide) ?_
        refine Rg.step 119 F_Mo_walk_172 rfl (fun _ => rfl) ?_
        exact Rg.weak (ih (j + 1) (2 * j) (by omega) (by omega) (fun r z1 z2 => hn r (by omega) z2)) (by simp [lput1, lput2, Value.category, fi0, fi1, fi2, fi3] <;> first | rfl | exact ⟨rfl, rfl⟩) (by simp [lput1, lput2, Value.category, fi0, fi1, fi2, fi3] <;> first | rfl | exact ⟨rfl, rfl⟩)
      · refine Rg.step 159 F_Mo_walk_158 rfl (fun _ => rfl) ?_
        refine Rg.step 160 F_Mo_walk_159 rfl (fun _ => rfl) ?_
        refine Rg.step 161 F_Mo_walk_160 rfl (fun _ => rfl) ?_
        refine Rg.call 164 F_Mo_walk_161 rfl (one_V rM_26_299 (by decide) (by simp) rfl rfl (gM hp) rfl) (Nat.le_of_ble_eq_true rfl) (Cg.any (c_Mo_isFit hp hw wN (by omega) a1 (by omega))) ?_
        refine Rg.ifneP 169 167 F_Mo_walk_164 rfl rfl (fun h164 => ?_) (fun h164 => ?_)
        · refine Rg.inc 172 F_Mo_walk_169 rfl rfl (by decide) ?_
          refine Rg.step 119 F_Mo_walk_172 rfl (fun _ => rfl) ?_
          exact Rg.weak (ih (j + 1) (2 * j) (by omega) (by omega) (fun r z1 z2 => hn r (by omega) z2)) (by simp [lput1, lput2, Value.category, fi0, fi1, fi2, fi3] <;> first | rfl | exact ⟨rfl, rfl⟩) (by simp [lput1, lput2, Value.category, fi0, fi1, fi2, fi3] <;> first | rfl | exact ⟨rfl, rfl⟩)
        · refine Rg.step 168 F_Mo_walk_167 rfl (fun _ => rfl) ?_
          exact absurd (show (badS (fun S s t => fit needs needTime needOf needHow needN needD S.1 S.2.1 S.2.2 (triedAction s) t) gone (facts, numN, numD) j) from ⟨h142, h155, h164⟩) (hn j (by omega) (by omega))
theorem walk_gone {d n0 : Nat} (hp : pre.length = 168) {o : Option Value ⊕ Nat} {mem1 : AM} (hg : Rg false d m_Mo_walk n0 25 [(1, .int (iI 24)), (0, .ref 168)] [] (MR pre code amountN amountD momentN momentD epsilonN epsilonD firstFacts firstN firstD wishes wants wantN wantD actions needs needTime needOf needHow needN needD changes changeTime changeOf changeHow changeN changeD lastOf lastN lastD steps stepAction startN startD lengthN lengthD rows row tried triedAction triedRows triedRow times unit facts numN numD oldFacts oldN oldD point judged fault faultPoint toldFacts toldN toldD outN outD pointN pointD (mix 24 (fun _ => False) gone) now leastN leastD greatestN greatestD events post) o mem1) : ∀ (n : Nat) (k : Int), k + n = 24 → 0 ≤ k → Rg false d m_Mo_walk n0 6 [(1, .int (iI k)), (0, .ref 168)] [] (MR pre code amountN amountD momentN momentD epsilonN epsilonD firstFacts firstN firstD wishes wants wantN wantD actions needs needTime needOf needHow needN needD changes changeTime changeOf changeHow changeN changeD lastOf lastN lastD steps stepAction startN startD lengthN lengthD rows row tried triedAction triedRows triedRow times unit facts numN numD oldFacts oldN oldD point judged fault faultPoint toldFacts toldN toldD outN outD pointN pointD (mix k (fun _ => False) gone) now leastN leastD greatestN greatestD events post) o mem1 := by
  intro n
  induction n with
  | zero =>
    intro k hk hk2
    have hk : k = 24 := by omega
    subst hk
    refine Rg.step 7 F_Mo_walk_6 rfl (fun _ => rfl) ?_
    refine Rg.bip 9 F_Mo_walk_7 rfl rfl ?_
    refine Rg.icgeI 25 12 F_Mo_walk_9 rfl rfl (by omega) (by omega) (fun _ => ?_) (fun h9 => by omega)
    exact Rg.weak hg (by simp [lput1, lput2, Value.category, fi0, fi1, fi2, fi3] <;> first | rfl | exact ⟨rfl, rfl⟩) (by simp [lput1, lput2, Value.category, fi0, fi1, fi2, fi3] <;> first | rfl | exact ⟨rfl, rfl⟩)
  | succ n ih =>
    intro k hk hk2
    refine Rg.step 7 F_Mo_walk_6 rfl (fun _ => rfl) ?_
    refine Rg.bip 9 F_Mo_walk_7 rfl rfl ?_
    refine Rg.icgeI 25 12 F_Mo_walk_9 rfl rfl (by omega) (by omega) (fun h9 => by omega) (fun _ => ?_)
    refine Rg.step 13 F_Mo_walk_12 rfl (fun _ => rfl) ?_
    refine Rg.getf 16 F_Mo_walk_13 rfl rF_26_157 (gM hp) rfl ?_
    refine Rg.step 17 F_Mo_walk_16 rfl (fun _ => rfl) ?_
    refine Rg.cP0 (B := False) 18 F_Mo_walk_17 rfl (fun z => z) ?_
    refine Rg.zst 19 F_Mo_walk_18 rfl (gR_gone hp) (by decide) (sR_gone hp) (by omega) (by decide) ?_
    refine Rg.inc 22 F_Mo_walk_19 rfl rfl (by decide) ?_
    refine Rg.step 6 F_Mo_walk_22 rfl (fun _ => rfl) ?_
    rw [mix_up (f := (fun _ => False))]
    exact Rg.weak (ih (k + 1) (by omega) (by omega)) (by simp [lput1, lput2, Value.category, fi0, fi1, fi2, fi3] <;> first | rfl | exact ⟨rfl, rfl⟩) (by simp [lput1, lput2, Value.category, fi0, fi1, fi2, fi3] <;> first | rfl | exact ⟨rfl, rfl⟩)
theorem walk_loop {d n0 : Nat} (hp : pre.length = 168) (hw : WT epsilonN epsilonD wishes wants wantN wantD actions needs needTime needOf needHow needN needD changes changeTime changeOf changeHow changeN changeD lastOf lastN lastD firstN firstD) (wU : 0 ≤ tried ∧ tried ≤ 12) (hact : ∀ s, 0 ≤ s → s < tried → 0 ≤ triedAction s ∧ triedAction s < actions) (wV : 0 ≤ triedRows ∧ triedRows ≤ 24) (hrow : ∀ k, 0 ≤ k → k < triedRows → 0 ≤ triedRow k ∧ triedRow k < 2 * tried) : ∀ (n : Nat) (k : Int) (F : Int → Prop) (N D : Int → Int) (G : Int → Prop) (x y p0 : Int) (lN lD gN gD : Int → Int) (F9 : Int → Prop) (N9 D9 : Int → Int) (B : Int → NB), k + n = triedRows → 0 ≤ k → WN N D → BOK G B lN lD gN gD → ∃ (why pt : Int) (F1 : Int → Prop) (N1 D1 : Int → Int) (G1 : Int → Prop) (x1 y1 p1 : Int) (lN1 lD1 gN1 gD1 : Int → Int) (F2 : Int → Prop) (N2 D2 : Int → Int) (B1 : Int → NB), WalkR tried triedRow (fun S s t => fit needs needTime needOf needHow needN needD S.1 S.2.1 S.2.2 (triedAction s) t) (fun S p => chAll changeTime changeOf changeHow changeN changeD (tmo p) (changes (triedAction (p / 2))).toNat (6 * triedAction (p / 2)) S) (fun S s => (lbN lastOf lastN lastD epsilonN epsilonD S.2.1 S.2.2 (triedAction s), lbD lastOf lastN lastD epsilonN epsilonD S.2.1 S.2.2 (triedAction s), gbN lastOf lastN lastD S.2.1 S.2.2 (triedAction s), gbD lastOf lastN lastD S.2.1 S.2.2 (triedAction s))) (fun S => goal wishes wants wantN wantD S.1 S.2.1 S.2.2) n k G (F, N, D) B why pt (F1, N1, D1) B1 ∧ WN N1 D1 ∧ (0 ≤ why ∧ why ≤ 6) ∧ (1 ≤ why → why ≤ 5 → p1 = pt) ∧ (why = 0 → BOK G1 B1 lN1 lD1 gN1 gD1 ∧ ∀ p, G1 p ↔ (G p ∨ ∃ j, k ≤ j ∧ j < triedRows ∧ triedRow j = p)) ∧ Rg false (d + 5) m_Mo_walk n0 27 [(1, .int (iI k)), (0, .ref 168)] [] (MR pre code amountN amountD momentN momentD epsilonN epsilonD firstFacts firstN firstD wishes wants wantN wantD actions needs needTime needOf needHow needN needD changes changeTime changeOf changeHow changeN changeD lastOf lastN lastD steps stepAction startN startD lengthN lengthD rows row tried triedAction triedRows triedRow times unit F N D F9 N9 D9 p0 judged fault faultPoint toldFacts toldN toldD x y pointN pointD G now lN lD gN gD events post) (.inl (some (.int (iI why)))) (MR pre code amountN amountD momentN momentD epsilonN epsilonD firstFacts firstN firstD wishes wants wantN wantD actions needs needTime needOf needHow needN needD changes changeTime changeOf changeHow changeN changeD lastOf lastN lastD steps stepAction startN startD lengthN lengthD rows row tried triedAction triedRows triedRow times unit F1 N1 D1 F2 N2 D2 p1 judged fault faultPoint toldFacts toldN toldD x1 y1 pointN pointD G1 now lN1 lD1 gN1 gD1 events post) := by
  intro n
  induction n with
  | zero =>
    intro k F N D G x y p0 lN lD gN gD F9 N9 D9 B hk hk2 wN hB
    have hG : ∀ p, G p ↔ (G p ∨ ∃ j, k ≤ j ∧ j < triedRows ∧ triedRow j = p) := fun p => ⟨Or.inl, fun z => z.elim id (fun ⟨j, z1, z2, _⟩ => by omega)⟩
    by_cases hgo : goal wishes wants wantN wantD F N D
    · refine ⟨0, -1, F, N, D, G, x, y, p0, lN, lD, gN, gD, F9, N9, D9, B, ⟨rfl, rfl, Or.inl ⟨hgo, rfl⟩⟩, wN, by omega, fun z z2 => by omega, fun _ => ⟨hB, hG⟩, ?_⟩
      refine Rg.step 28 F_Mo_walk_27 rfl (fun _ => rfl) ?_
      refine Rg.step 29 F_Mo_walk_28 rfl (fun _ => rfl) ?_
      refine Rg.getf 32 F_Mo_walk_29 rfl rF_26_283 (gM hp) rfl ?_
      refine Rg.icgeI 181 35 F_Mo_walk_32 rfl rfl (by omega) (by omega) (fun _ => ?_) (fun h32 => by omega)
      refine Rg.step 182 F_Mo_walk_181 rfl (fun _ => rfl) ?_
      refine Rg.call 185 F_Mo_walk_182 rfl (one_V rM_26_344 (by decide) (by simp) rfl rfl (gM hp) rfl) (Nat.le_of_ble_eq_true rfl) (Cg.any (c_Mo_isGoal hp hw wN)) ?_
      refine Rg.ifeqP 192 188 F_Mo_walk_185 rfl rfl (fun h185 => absurd hgo h185) (fun _ => ?_)
      refine Rg.step 189 F_Mo_walk_188 rfl (fun _ => rfl) ?_
      refine Rg.step 194 F_Mo_walk_189 rfl (fun _ => rfl) ?_
      exact Rg.retI F_Mo_walk_194 rfl rfl rfl
    · refine ⟨6, -1, F, N, D, G, x, y, p0, lN, lD, gN, gD, F9, N9, D9, B, ⟨rfl, rfl, Or.inr ⟨hgo, rfl⟩⟩, wN, by omega, fun z z2 => by omega, fun _ => ⟨hB, hG⟩, ?_⟩
      refine Rg.step 28 F_Mo_walk_27 rfl (fun _ => rfl) ?_
      refine Rg.step 29 F_Mo_walk_28 rfl (fun _ => rfl) ?_
      refine Rg.getf 32 F_Mo_walk_29 rfl rF_26_283 (gM hp) rfl ?_
      refine Rg.icgeI 181 35 F_Mo_walk_32 rfl rfl (by omega) (by omega) (fun _ => ?_) (fun h32 => by omega)
      refine Rg.step 182 F_Mo_walk_181 rfl (fun _ => rfl) ?_
      refine Rg.call 185 F_Mo_walk_182 rfl (one_V rM_26_344 (by decide) (by simp) rfl rfl (gM hp) rfl) (Nat.le_of_ble_eq_true rfl) (Cg.any (c_Mo_isGoal hp hw wN)) ?_
      refine Rg.ifeqP 192 188 F_Mo_walk_185 rfl rfl (fun _ => ?_) (fun h185 => absurd h185 hgo)
      refine Rg.bip 194 F_Mo_walk_192 rfl rfl ?_
      exact Rg.retI F_Mo_walk_194 rfl rfl rfl
  | succ n ih =>
    intro k F N D G x y p0 lN lD gN gD F9 N9 D9 B hk hk2 wN hB
    have r1 := hrow k hk2 (by omega)
    have a1 := hact (triedRow k / 2) (by omega) (by omega)
    have c2 := tmo_b (triedRow k)
    by_cases he : triedRow k % 2 = 0
    · skip
      obtain ⟨xb, yb, gn, hgn, hbd⟩ := c_Mo_bound (d := d) (pre := pre) (post := post) (code := code) (amountN := amountN) (amountD := amountD) (momentN := momentN) (momentD := momentD) (epsilonN := epsilonN) (epsilonD := epsilonD) (firstFacts := firstFacts) (firstN := firstN) (firstD := firstD) (wishes := wishes) (wants := wants) (wantN := wantN) (wantD := wantD) (actions := actions) (needs := needs) (needTime := needTime) (needOf := needOf) (needHow := needHow) (needN := needN) (needD := needD) (changes := changes) (changeTime := changeTime) (changeOf := changeOf) (changeHow := changeHow) (changeN := changeN) (changeD := changeD) (lastOf := lastOf) (lastN := lastN) (lastD := lastD) (steps := steps) (stepAction := stepAction) (startN := startN) (startD := startD) (lengthN := lengthN) (lengthD := lengthD) (rows := rows) (row := row) (tried := tried) (triedAction := triedAction) (triedRows := triedRows) (triedRow := triedRow) (times := times) (unit := unit) (facts := F) (numN := N) (numD := D) (oldFacts := F9) (oldN := N9) (oldD := D9) (point := (triedRow k)) (judged := judged) (fault := fault) (faultPoint := faultPoint) (toldFacts := toldFacts) (toldN := toldN) (toldD := toldD) (outN := x) (outD := y) (pointN := pointN) (pointD := pointD) (gone := G) (now := now) (leastN := lN) (leastD := lD) (greatestN := gN) (greatestD := gD) (events := events) hp hw wN (s := triedRow k / 2) (by omega) a1
      have hB2 : BOK (up1 G (triedRow k) True) (up1 B (triedRow k / 2) (lbN lastOf lastN lastD epsilonN epsilonD N D (triedAction (triedRow k / 2)), lbD lastOf lastN lastD epsilonN epsilonD N D (triedAction (triedRow k / 2)), gbN lastOf lastN lastD N D (triedAction (triedRow k / 2)), gbD lastOf lastN lastD N D (triedAction (triedRow k / 2)))) (up1 lN (triedRow k / 2) (lbN lastOf lastN lastD epsilonN epsilonD N D (triedAction (triedRow k / 2)))) (up1 lD (triedRow k / 2) (lbD lastOf lastN lastD epsilonN epsilonD N D (triedAction (triedRow k / 2)))) (up1 gN (triedRow k / 2) gn) (up1 gD (triedRow k / 2) (gbD lastOf lastN lastD N D (triedAction (triedRow k / 2)))) := by
        intro r z1 z2
        by_cases hr : r = triedRow k / 2
        · subst hr
          rw [up1_eq, up1_eq, up1_eq, up1_eq, up1_eq]
          exact ⟨rfl, rfl, rfl, hgn, bn_bd hw wN a1⟩
        · rw [up1_ne _ _ hr, up1_ne _ _ hr, up1_ne _ _ hr, up1_ne _ _ hr, up1_ne _ _ hr]
          rw [up1_ne _ _ (by omega)] at z2
          exact hB r z1 z2
      by_cases hf : fit needs needTime needOf needHow needN needD F N D (triedAction (triedRow k / 2)) (tmo (triedRow k))
      · cases hc : (fun S p => chAll changeTime changeOf changeHow changeN changeD (tmo p) (changes (triedAction (p / 2))).toNat (6 * triedAction (p / 2)) S) (F, N, D) (triedRow k) with
        | none =>
          obtain ⟨F0, N0, D0, x0, y0, hca⟩ := c_Mo_allChanged_no (d := d) (pre := pre) (post := post) (code := code) (amountN := amountN) (amountD := amountD) (momentN := momentN) (momentD := momentD) (epsilonN := epsilonN) (epsilonD := epsilonD) (firstFacts := firstFacts) (firstN := firstN) (firstD := firstD) (wishes := wishes) (wants := wants) (wantN := wantN) (wantD := wantD) (actions := actions) (needs := needs) (needTime := needTime) (needOf := needOf) (needHow := needHow) (needN := needN) (needD := needD) (changes := changes) (changeTime := changeTime) (changeOf := changeOf) (changeHow := changeHow) (changeN := changeN) (changeD := changeD) (lastOf := lastOf) (lastN := lastN) (lastD := lastD) (steps := steps) (stepAction := stepAction) (startN := startN) (startD := startD) (lengthN := lengthN) (lengthD := lengthD) (rows := rows) (row := row) (tried := tried) (triedAction := triedAction) (triedRows := triedRows) (triedRow := triedRow) (times := times) (unit := unit) (facts := F) (numN := N) (numD := D) (oldFacts := F) (oldN := N) (oldD := D) (point := (triedRow k)) (judged := judged) (fault := fault) (faultPoint := faultPoint) (toldFacts := toldFacts) (toldN := toldN) (toldD := toldD) (outN := xb) (outD := yb) (pointN := pointN) (pointD := pointD) (gone := G) (now := now) (leastN := (up1 lN (triedRow k / 2) (lbN lastOf lastN lastD epsilonN epsilonD N D (triedAction (triedRow k / 2))))) (leastD := (up1 lD (triedRow k / 2) (lbD lastOf lastN lastD epsilonN epsilonD N D (triedAction (triedRow k / 2))))) (greatestN := (up1 gN (triedRow k / 2) gn)) (greatestD := (up1 gD (triedRow k / 2) (gbD lastOf lastN lastD N D (triedAction (triedRow k / 2))))) (events := events) hp hw (p := triedRow k) (by omega) a1 wN hc
          refine ⟨4, triedRow k, F, N, D, G, x0, y0, triedRow k, (up1 lN (triedRow k / 2) (lbN lastOf lastN lastD epsilonN epsilonD N D (triedAction (triedRow k / 2)))), (up1 lD (triedRow k / 2) (lbD lastOf lastN lastD epsilonN epsilonD N D (triedAction (triedRow k / 2)))), (up1 gN (triedRow k / 2) gn), (up1 gD (triedRow k / 2) (gbD lastOf lastN lastD N D (triedAction (triedRow k / 2)))), F, N, D, B, Or.inr ⟨hf, Or.inl ⟨hc, rfl, rfl, rfl⟩⟩, wN, by omega, fun _ _ => rfl, fun z => absurd z (by omega), ?_⟩
          refine Rg.step 28 F_Mo_walk_27 rfl (fun _ => rfl) ?_
          refine Rg.step 29 F_Mo_walk_28 rfl (fun _ => rfl) ?_
          refine Rg.getf 32 F_Mo_walk_29 rfl rF_26_283 (gM hp) rfl ?_
          refine Rg.icgeI 181 35 F_Mo_walk_32 rfl rfl (by omega) (by omega) (fun h32 => by omega) (fun _ => ?_)
          refine Rg.step 36 F_Mo_walk_35 rfl (fun _ => rfl) ?_
          refine Rg.step 37 F_Mo_walk_36 rfl (fun _ => rfl) ?_
          refine Rg.getf 40 F_Mo_walk_37 rfl rF_26_114 (gM hp) rfl ?_
          refine Rg.step 41 F_Mo_walk_40 rfl (fun _ => rfl) ?_
          refine Rg.ild 42 F_Mo_walk_41 rfl (gR_triedRow hp) (by omega) (by decide) ?_
          refine Rg.put 45 F_Mo_walk_42 rfl rF_26_305 (gM hp) (by decide) (Nat.le_of_ble_eq_true rfl) (Or.inl rfl) rfl (sM_point hp) ?_
          refine Rg.step 46 F_Mo_walk_45 rfl (fun _ => rfl) ?_
          refine Rg.getf 49 F_Mo_walk_46 rfl rF_26_305 (gM hp) rfl ?_
          refine Rg.step 50 F_Mo_walk_49 rfl (fun _ => rfl) ?_
          refine Rg.remIp 51 F_Mo_walk_50 rfl (by omega) (by omega) ?_
          refine Rg.ifneI 64 54 F_Mo_walk_51 rfl rfl (by omega) (fun h51 => by omega) (fun _ => ?_)
          refine Rg.step 55 F_Mo_walk_54 rfl (fun _ => rfl) ?_
          refine Rg.step 56 F_Mo_walk_55 rfl (fun _ => rfl) ?_
          refine Rg.getf 59 F_Mo_walk_56 rfl rF_26_305 (gM hp) rfl ?_
          refine Rg.step 60 F_Mo_walk_59 rfl (fun _ => rfl) ?_
          refine Rg.divIp 61 F_Mo_walk_60 rfl (by omega) (by omega) ?_
          refine Rg.call 64 F_Mo_walk_61 rfl (one_V rM_26_353 (by decide) (by simp) rfl rfl (gM hp) rfl) (Nat.le_of_ble_eq_true rfl) hbd ?_
          refine Rg.step 65 F_Mo_walk_64 rfl (fun _ => rfl) ?_
          refine Rg.step 66 F_Mo_walk_65 rfl (fun _ => rfl) ?_
          refine Rg.getf 69 F_Mo_walk_66 rfl rF_26_305 (gM hp) rfl ?_
          refine Rg.step 70 F_Mo_walk_69 rfl (fun _ => rfl) ?_
          refine Rg.divIp 71 F_Mo_walk_70 rfl (by omega) (by omega) ?_
          refine Rg.step 72 F_Mo_walk_71 rfl (fun _ => rfl) ?_
          refine Rg.getf 75 F_Mo_walk_72 rfl rF_26_305 (gM hp) rfl ?_
          refine Rg.call 78 F_Mo_walk_75 rfl (one_S (by decide +kernel) rM_26_248 (by decide) (by simp) rfl rfl) (Nat.le_of_ble_eq_true rfl) (Cg.any (c_Mo_timeOf (by omega))) ?_
          refine Rg.call 81 F_Mo_walk_78 rfl (one_V rM_26_299 (by decide) (by simp) rfl rfl (gM hp) rfl) (Nat.le_of_ble_eq_true rfl) (Cg.any (c_Mo_isFit hp hw wN (by omega) a1 (by omega))) ?_
          refine Rg.ifneP 86 84 F_Mo_walk_81 rfl rfl (fun _ => ?_) (fun h81 => absurd hf h81)
          refine Rg.step 87 F_Mo_walk_86 rfl (fun _ => rfl) ?_
          refine Rg.call 90 F_Mo_walk_87 rfl (one_V rM_26_311 (by decide) (by simp) rfl rfl (gM hp) rfl) (Nat.le_of_ble_eq_true rfl) (c_Mo_keepState hp) ?_
          refine Rg.step 91 F_Mo_walk_90 rfl (fun _ => rfl) ?_
          refine Rg.step 92 F_Mo_walk_91 rfl (fun _ => rfl) ?_
          refine Rg.getf 95 F_Mo_walk_92 rfl rF_26_305 (gM hp) rfl ?_
          refine Rg.call 98 F_Mo_walk_95 rfl (one_V rM_26_314 (by decide) (by simp) rfl rfl (gM hp) rfl) (Nat.le_of_ble_eq_true rfl) hca ?_
          refine Rg.ifneP 107 101 F_Mo_walk_98 rfl rfl (fun h98 => absurd h98 (fun z => z)) (fun _ => ?_)
          refine Rg.step 102 F_Mo_walk_101 rfl (fun _ => rfl) ?_
          refine Rg.call 105 F_Mo_walk_102 rfl (one_V rM_26_317 (by decide) (by simp) rfl rfl (gM hp) rfl) (Nat.le_of_ble_eq_true rfl) (c_Mo_oldState hp) ?_
          refine Rg.step 106 F_Mo_walk_105 rfl (fun _ => rfl) ?_
          exact Rg.retI F_Mo_walk_106 rfl rfl rfl
        | some S1 =>
          obtain ⟨F0, N0, D0⟩ := S1
          obtain ⟨w0, x0, y0, hca⟩ := c_Mo_allChanged (d := d) (pre := pre) (post := post) (code := code) (amountN := amountN) (amountD := amountD) (momentN := momentN) (momentD := momentD) (epsilonN := epsilonN) (epsilonD := epsilonD) (firstFacts := firstFacts) (firstN := firstN) (firstD := firstD) (wishes := wishes) (wants := wants) (wantN := wantN) (wantD := wantD) (actions := actions) (needs := needs) (needTime := needTime) (needOf := needOf) (needHow := needHow) (needN := needN) (needD := needD) (changes := changes) (changeTime := changeTime) (changeOf := changeOf) (changeHow := changeHow) (changeN := changeN) (changeD := changeD) (lastOf := lastOf) (lastN := lastN) (lastD := lastD) (steps := steps) (stepAction := stepAction) (startN := startN) (startD := startD) (lengthN := lengthN) (lengthD := lengthD) (rows := rows) (row := row) (tried := tried) (triedAction := triedAction) (triedRows := triedRows) (triedRow := triedRow) (times := times) (unit := unit) (facts := F) (numN := N) (numD := D) (oldFacts := F) (oldN := N) (oldD := D) (point := (triedRow k)) (judged := judged) (fault := fault) (faultPoint := faultPoint) (toldFacts := toldFacts) (toldN := toldN) (toldD := toldD) (outN := xb) (outD := yb) (pointN := pointN) (pointD := pointD) (gone := G) (now := now) (leastN := (up1 lN (triedRow k / 2) (lbN lastOf lastN lastD epsilonN epsilonD N D (triedAction (triedRow k / 2))))) (leastD := (up1 lD (triedRow k / 2) (lbD lastOf lastN lastD epsilonN epsilonD N D (triedAction (triedRow k / 2))))) (greatestN := (up1 gN (triedRow k / 2) gn)) (greatestD := (up1 gD (triedRow k / 2) (gbD lastOf lastN lastD N D (triedAction (triedRow k / 2))))) (events := events) hp hw (p := triedRow k) (by omega) a1 wN hc
          rcases fst_or (fun s => badS (fun S s t => fit needs needTime needOf needHow needN needD S.1 S.2.1 S.2.2 (triedAction s) t) (up1 G (triedRow k) True) (F0, N0, D0) s) tried wU.1 with ⟨s, s1, s2, s3, s4⟩ | ns
          · have hr5 := walk_over5 (d := d) (n0 := n0) (pre := pre) (post := post) (code := code) (amountN := amountN) (amountD := amountD) (momentN := momentN) (momentD := momentD) (epsilonN := epsilonN) (epsilonD := epsilonD) (firstFacts := firstFacts) (firstN := firstN) (firstD := firstD) (wishes := wishes) (wants := wants) (wantN := wantN) (wantD := wantD) (actions := actions) (needs := needs) (needTime := needTime) (needOf := needOf) (needHow := needHow) (needN := needN) (needD := needD) (changes := changes) (changeTime := changeTime) (changeOf := changeOf) (changeHow := changeHow) (changeN := changeN) (changeD := changeD) (lastOf := lastOf) (lastN := lastN) (lastD := lastD) (steps := steps) (stepAction := stepAction) (startN := startN) (startD := startD) (lengthN := lengthN) (lengthD := lengthD) (rows := rows) (row := row) (tried := tried) (triedAction := triedAction) (triedRows := triedRows) (triedRow := triedRow) (times := times) (unit := unit) (facts := F0) (numN := N0) (numD := D0) (oldFacts := F) (oldN := N) (oldD := D) (judged := judged) (fault := fault) (faultPoint := faultPoint) (toldFacts := toldFacts) (toldN := toldN) (toldD := toldD) (outN := x0) (outD := y0) (pointN := pointN) (pointD := pointD) (gone := (up1 G (triedRow k) True)) (now := now) (leastN := (up1 lN (triedRow k / 2) (lbN lastOf lastN lastD epsilonN epsilonD N D (triedAction (triedRow k / 2))))) (leastD := (up1 lD (triedRow k / 2) (lbD lastOf lastN lastD epsilonN epsilonD N D (triedAction (triedRow k / 2))))) (greatestN := (up1 gN (triedRow k / 2) gn)) (greatestD := (up1 gD (triedRow k / 2) (gbD lastOf lastN lastD N D (triedAction (triedRow k / 2))))) (events := events) hp hw wU hact w0 (k := k) s2 s3 s.toNat 0 (triedRow k) (by omega) (by omega) (fun r z1 z2 => s4 r z1 z2)
            refine ⟨5, 2 * s, F0, N0, D0, (up1 G (triedRow k) True), x0, y0, 2 * s, (up1 lN (triedRow k / 2) (lbN lastOf lastN lastD epsilonN epsilonD N D (triedAction (triedRow k / 2)))), (up1 lD (triedRow k / 2) (lbD lastOf lastN lastD epsilonN epsilonD N D (triedAction (triedRow k / 2)))), (up1 gN (triedRow k / 2) gn), (up1 gD (triedRow k / 2) (gbD lastOf lastN lastD N D (triedAction (triedRow k / 2)))), F, N, D, B, Or.inr ⟨hf, Or.inr ⟨(F0, N0, D0), hc, Or.inl ⟨s, rfl, s1, s2, s3, s4, rfl, rfl⟩⟩⟩, w0, by omega, fun _ _ => rfl, fun z => absurd z (by omega), ?_⟩
            refine Rg.step 28 F_Mo_walk_27 rfl (fun _ => rfl) ?_
            refine Rg.step 29 F_Mo_walk_28 rfl (fun _ => rfl) ?_
            refine Rg.getf 32 F_Mo_walk_29 rfl rF_26_283 (gM hp) rfl ?_
            refine Rg.icgeI 181 35 F_Mo_walk_32 rfl rfl (by omega) (by omega) (fun h32 => by omega) (fun _ => ?_)
            refine Rg.step 36 F_Mo_walk_35 rfl (fun _ => rfl) ?_
            refine Rg.step 37 F_Mo_walk_36 rfl (fun _ => rfl) ?_
            refine Rg.getf 40 F_Mo_walk_37 rfl rF_26_114 (gM hp) rfl ?_
            refine Rg.step 41 F_Mo_walk_40 rfl (fun _ => rfl) ?_
            refine Rg.ild 42 F_Mo_walk_41 rfl (gR_triedRow hp) (by omega) (by decide) ?_
            refine Rg.put 45 F_Mo_walk_42 rfl rF_26_305 (gM hp) (by decide) (Nat.le_of_ble_eq_true rfl) (Or.inl rfl) rfl (sM_point hp) ?_
            refine Rg.step 46 F_Mo_walk_45 rfl (fun _ => rfl) ?_
            refine Rg.getf 49 F_Mo_walk_46 rfl rF_26_305 (gM hp) rfl ?_
            refine Rg.step 50 F_Mo_walk_49 rfl (fun _ => rfl) ?_
            refine Rg.remIp 51 F_Mo_walk_50 rfl (by omega) (by omega) ?_
            refine Rg.ifneI 64 54 F_Mo_walk_51 rfl rfl (by omega) (fun h51 => by omega) (fun _ => ?_)
            refine Rg.step 55 F_Mo_walk_54 rfl (fun _ => rfl) ?_
            refine Rg.step 56 F_Mo_walk_55 rfl (fun _ => rfl) ?_
            refine Rg.getf 59 F_Mo_walk_56 rfl rF_26_305 (gM hp) rfl ?_
            refine Rg.step 60 F_Mo_walk_59 rfl (fun _ => rfl) ?_
            refine Rg.divIp 61 F_Mo_walk_60 rfl (by omega) (by omega) ?_
            refine Rg.call 64 F_Mo_walk_61 rfl (one_V rM_26_353 (by decide) (by simp) rfl rfl (gM hp) rfl) (Nat.le_of_ble_eq_true rfl) hbd ?_
            refine Rg.step 65 F_Mo_walk_64 rfl (fun _ => rfl) ?_
            refine Rg.step 66 F_Mo_walk_65 rfl (fun _ => rfl) ?_
            refine Rg.getf 69 F_Mo_walk_66 rfl rF_26_305 (gM hp) rfl ?_
            refine Rg.step 70 F_Mo_walk_69 rfl (fun _ => rfl) ?_
            refine Rg.divIp 71 F_Mo_walk_70 rfl (by omega) (by omega) ?_
            refine Rg.step 72 F_Mo_walk_71 rfl (fun _ => rfl) ?_
            refine Rg.getf 75 F_Mo_walk_72 rfl rF_26_305 (gM hp) rfl ?_
            refine Rg.call 78 F_Mo_walk_75 rfl (one_S (by decide +kernel) rM_26_248 (by decide) (by simp) rfl rfl) (Nat.le_of_ble_eq_true rfl) (Cg.any (c_Mo_timeOf (by omega))) ?_
            refine Rg.call 81 F_Mo_walk_78 rfl (one_V rM_26_299 (by decide) (by simp) rfl rfl (gM hp) rfl) (Nat.le_of_ble_eq_true rfl) (Cg.any (c_Mo_isFit hp hw wN (by omega) a1 (by omega))) ?_
            refine Rg.ifneP 86 84 F_Mo_walk_81 rfl rfl (fun _ => ?_) (fun h81 => absurd hf h81)
            refine Rg.step 87 F_Mo_walk_86 rfl (fun _ => rfl) ?_
            refine Rg.call 90 F_Mo_walk_87 rfl (one_V rM_26_311 (by decide) (by simp) rfl rfl (gM hp) rfl) (Nat.le_of_ble_eq_true rfl) (c_Mo_keepState hp) ?_
            refine Rg.step 91 F_Mo_walk_90 rfl (fun _ => rfl) ?_
            refine Rg.step 92 F_Mo_walk_91 rfl (fun _ => rfl) ?_
            refine Rg.getf 95 F_Mo_walk_92 rfl rF_26_305 (gM hp) rfl ?_
            refine Rg.call 98 F_Mo_walk_95 rfl (one_V rM_26_314 (by decide) (by simp) rfl rfl (gM hp) rfl) (Nat.le_of_ble_eq_true rfl) hca ?_
            refine Rg.ifneP 107 101 F_Mo_walk_98 rfl rfl (fun _ => ?_) (fun h98 => absurd trivial h98)
            refine Rg.step 108 F_Mo_walk_107 rfl (fun _ => rfl) ?_
            refine Rg.getf 111 F_Mo_walk_108 rfl rF_26_157 (gM hp) rfl ?_
            refine Rg.step 112 F_Mo_walk_111 rfl (fun _ => rfl) ?_
            refine Rg.getf 115 F_Mo_walk_112 rfl rF_26_305 (gM hp) rfl ?_
            refine Rg.cP1 (B := True) 116 F_Mo_walk_115 rfl trivial ?_
            refine Rg.zst 117 F_Mo_walk_116 rfl (gR_gone hp) (by decide) (sR_gone hp) (by omega) (by decide) ?_
            refine Rg.step 118 F_Mo_walk_117 rfl (fun _ => rfl) ?_
            refine Rg.step 119 F_Mo_walk_118 rfl (fun _ => rfl) ?_
            exact Rg.weak hr5 (by simp [lput1, lput2, Value.category, fi0, fi1, fi2, fi3] <;> first | rfl | exact ⟨rfl, rfl⟩) (by simp [lput1, lput2, Value.category, fi0, fi1, fi2, fi3] <;> first | rfl | exact ⟨rfl, rfl⟩)
          · obtain ⟨z0, hr0⟩ := walk_over (d := d) (n0 := n0) (pre := pre) (post := post) (code := code) (amountN := amountN) (amountD := amountD) (momentN := momentN) (momentD := momentD) (epsilonN := epsilonN) (epsilonD := epsilonD) (firstFacts := firstFacts) (firstN := firstN) (firstD := firstD) (wishes := wishes) (wants := wants) (wantN := wantN) (wantD := wantD) (actions := actions) (needs := needs) (needTime := needTime) (needOf := needOf) (needHow := needHow) (needN := needN) (needD := needD) (changes := changes) (changeTime := changeTime) (changeOf := changeOf) (changeHow := changeHow) (changeN := changeN) (changeD := changeD) (lastOf := lastOf) (lastN := lastN) (lastD := lastD) (steps := steps) (stepAction := stepAction) (startN := startN) (startD := startD) (lengthN := lengthN) (lengthD := lengthD) (rows := rows) (row := row) (tried := tried) (triedAction := triedAction) (triedRows := triedRows) (triedRow := triedRow) (times := times) (unit := unit) (facts := F0) (numN := N0) (numD := D0) (oldFacts := F) (oldN := N) (oldD := D) (judged := judged) (fault := fault) (faultPoint := faultPoint) (toldFacts := toldFacts) (toldN := toldN) (toldD := toldD) (outN := x0) (outD := y0) (pointN := pointN) (pointD := pointD) (gone := (up1 G (triedRow k) True)) (now := now) (leastN := (up1 lN (triedRow k / 2) (lbN lastOf lastN lastD epsilonN epsilonD N D (triedAction (triedRow k / 2))))) (leastD := (up1 lD (triedRow k / 2) (lbD lastOf lastN lastD epsilonN epsilonD N D (triedAction (triedRow k / 2))))) (greatestN := (up1 gN (triedRow k / 2) gn)) (greatestD := (up1 gD (triedRow k / 2) (gbD lastOf lastN lastD N D (triedAction (triedRow k / 2))))) (events := events) hp hw wU hact w0 (k := k) tried.toNat 0 (triedRow k) (by omega) (by omega) (fun r z1 z2 => ns r z1 z2)
            obtain ⟨why, pt, F1, N1, D1, G1, x1, y1, p1, lN1, lD1, gN1, gD1, F2, N2, D2, B1, hW, wN1, hwy, hp1, hfin, ht⟩ := ih (k + 1) F0 N0 D0 (up1 G (triedRow k) True) x0 y0 z0 (up1 lN (triedRow k / 2) (lbN lastOf lastN lastD epsilonN epsilonD N D (triedAction (triedRow k / 2)))) (up1 lD (triedRow k / 2) (lbD lastOf lastN lastD epsilonN epsilonD N D (triedAction (triedRow k / 2)))) (up1 gN (triedRow k / 2) gn) (up1 gD (triedRow k / 2) (gbD lastOf lastN lastD N D (triedAction (triedRow k / 2)))) F N D (up1 B (triedRow k / 2) (lbN lastOf lastN lastD epsilonN epsilonD N D (triedAction (triedRow k / 2)), lbD lastOf lastN lastD epsilonN epsilonD N D (triedAction (triedRow k / 2)), gbN lastOf lastN lastD N D (triedAction (triedRow k / 2)), gbD lastOf lastN lastD N D (triedAction (triedRow k / 2)))) (by omega) (by omega) w0 hB2
            refine ⟨why, pt, F1, N1, D1, G1, x1, y1, p1, lN1, lD1, gN1, gD1, F2, N2, D2, B1, Or.inr ⟨hf, Or.inr ⟨(F0, N0, D0), hc, Or.inr ⟨ns, by rw [if_pos he]; exact hW⟩⟩⟩, wN1, hwy, hp1, fun z => ⟨(hfin z).1, fun p => Iff.trans ((hfin z).2 p) ⟨?_, ?_⟩⟩, ?_⟩
            · rintro (z1 | ⟨j, z1, z2, z3⟩)
              · by_cases hq : p = triedRow k
                · exact Or.inr ⟨k, by omega, by omega, hq.symm⟩
                · rw [up1_ne _ _ hq] at z1
                  exact Or.inl z1
              · exact Or.inr ⟨j, by omega, z2, z3⟩
            · rintro (z1 | ⟨j, z1, z2, z3⟩)
              · by_cases hq : p = triedRow k
                · exact Or.inl (by rw [hq, up1_eq]; trivial)
                · exact Or.inl (by rw [up1_ne _ _ hq]; exact z1)
              · by_cases hj : j = k
                · exact Or.inl (by rw [← z3, hj, up1_eq]; trivial)
                · exact Or.inr ⟨j, by omega, z2, z3⟩
            · skip
              refine Rg.step 28 F_Mo_walk_27 rfl (fun _ => rfl) ?_
              refine Rg.step 29 F_Mo_walk_28 rfl (fun _ => rfl) ?_
              refine Rg.getf 32 F_Mo_walk_29 rfl rF_26_283 (gM hp) rfl ?_
              refine Rg.icgeI 181 35 F_Mo_walk_32 rfl rfl (by omega) (by omega) (fun h32 => by omega) (fun _ => ?_)
              refine Rg.step 36 F_Mo_walk_35 rfl (fun _ => rfl) ?_
              refine Rg.step 37 F_Mo_walk_36 rfl (fun _ => rfl) ?_
              refine Rg.getf 40 F_Mo_walk_37 rfl rF_26_114 (gM hp) rfl ?_
              refine Rg.step 41 F_Mo_walk_40 rfl (fun _ => rfl) ?_
              refine Rg.ild 42 F_Mo_walk_41 rfl (gR_triedRow hp) (by omega) (by decide) ?_
              refine Rg.put 45 F_Mo_walk_42 rfl rF_26_305 (gM hp) (by decide) (Nat.le_of_ble_eq_true rfl) (Or.inl rfl) rfl (sM_point hp) ?_
              refine Rg.step 46 F_Mo_walk_45 rfl (fun _ => rfl) ?_
              refine Rg.getf 49 F_Mo_walk_46 rfl rF_26_305 (gM hp) rfl ?_
              refine Rg.step 50 F_Mo_walk_49 rfl (fun _ => rfl) ?_
              refine Rg.remIp 51 F_Mo_walk_50 rfl (by omega) (by omega) ?_
              refine Rg.ifneI 64 54 F_Mo_walk_51 rfl rfl (by omega) (fun h51 => by omega) (fun _ => ?_)
              refine Rg.step 55 F_Mo_walk_54 rfl (fun _ => rfl) ?_
              refine Rg.step 56 F_Mo_walk_55 rfl (fun _ => rfl) ?_
              refine Rg.getf 59 F_Mo_walk_56 rfl rF_26_305 (gM hp) rfl ?_
              refine Rg.step 60 F_Mo_walk_59 rfl (fun _ => rfl) ?_
              refine Rg.divIp 61 F_Mo_walk_60 rfl (by omega) (by omega) ?_
              refine Rg.call 64 F_Mo_walk_61 rfl (one_V rM_26_353 (by decide) (by simp) rfl rfl (gM hp) rfl) (Nat.le_of_ble_eq_true rfl) hbd ?_
              refine Rg.step 65 F_Mo_walk_64 rfl (fun _ => rfl) ?_
              refine Rg.step 66 F_Mo_walk_65 rfl (fun _ => rfl) ?_
              refine Rg.getf 69 F_Mo_walk_66 rfl rF_26_305 (gM hp) rfl ?_
              refine Rg.step 70 F_Mo_walk_69 rfl (fun _ => rfl) ?_
              refine Rg.divIp 71 F_Mo_walk_70 rfl (by omega) (by omega) ?_
              refine Rg.step 72 F_Mo_walk_71 rfl (fun _ => rfl) ?_
              refine Rg.getf 75 F_Mo_walk_72 rfl rF_26_305 (gM hp) rfl ?_
              refine Rg.call 78 F_Mo_walk_75 rfl (one_S (by decide +kernel) rM_26_248 (by decide) (by simp) rfl rfl) (Nat.le_of_ble_eq_true rfl) (Cg.any (c_Mo_timeOf (by omega))) ?_
              refine Rg.call 81 F_Mo_walk_78 rfl (one_V rM_26_299 (by decide) (by simp) rfl rfl (gM hp) rfl) (Nat.le_of_ble_eq_true rfl) (Cg.any (c_Mo_isFit hp hw wN (by omega) a1 (by omega))) ?_
              refine Rg.ifneP 86 84 F_Mo_walk_81 rfl rfl (fun _ => ?_) (fun h81 => absurd hf h81)
              refine Rg.step 87 F_Mo_walk_86 rfl (fun _ => rfl) ?_
              refine Rg.call 90 F_Mo_walk_87 rfl (one_V rM_26_311 (by decide) (by simp) rfl rfl (gM hp) rfl) (Nat.le_of_ble_eq_true rfl) (c_Mo_keepState hp) ?_
              refine Rg.step 91 F_Mo_walk_90 rfl (fun _ => rfl) ?_
              refine Rg.step 92 F_Mo_walk_91 rfl (fun _ => rfl) ?_
              refine Rg.getf 95 F_Mo_walk_92 rfl rF_26_305 (gM hp) rfl ?_
              refine Rg.call 98 F_Mo_walk_95 rfl (one_V rM_26_314 (by decide) (by simp) rfl rfl (gM hp) rfl) (Nat.le_of_ble_eq_true rfl) hca ?_
              refine Rg.ifneP 107 101 F_Mo_walk_98 rfl rfl (fun _ => ?_) (fun h98 => absurd trivial h98)
              refine Rg.step 108 F_Mo_walk_107 rfl (fun _ => rfl) ?_
              refine Rg.getf 111 F_Mo_walk_108 rfl rF_26_157 (gM hp) rfl ?_
              refine Rg.step 112 F_Mo_walk_111 rfl (fun _ => rfl) ?_
              refine Rg.getf 115 F_Mo_walk_112 rfl rF_26_305 (gM hp) rfl ?_
              refine Rg.cP1 (B := True) 116 F_Mo_walk_115 rfl trivial ?_
              refine Rg.zst 117 F_Mo_walk_116 rfl (gR_gone hp) (by decide) (sR_gone hp) (by omega) (by decide) ?_
              refine Rg.step 118 F_Mo_walk_117 rfl (fun _ => rfl) ?_
              refine Rg.step 119 F_Mo_walk_118 rfl (fun _ => rfl) ?_
              refine Rg.weak (hr0 _ _ ?_) (by simp [lput1, lput2, Value.category, fi0, fi1, fi2, fi3] <;> first | rfl | exact ⟨rfl, rfl⟩) (by simp [lput1, lput2, Value.category, fi0, fi1, fi2, fi3] <;> first | rfl | exact ⟨rfl, rfl⟩)
              refine Rg.inc 178 F_Mo_walk_175 rfl rfl (by decide) ?_
              refine Rg.step 27 F_Mo_walk_178 rfl (fun _ => rfl) ?_
              exact Rg.weak ht (by simp [lput1, lput2, Value.category, fi0, fi1, fi2, fi3] <;> first | rfl | exact ⟨rfl, rfl⟩) (by simp [lput1, lput2, Value.category, fi0, fi1, fi2, fi3] <;> first | rfl | exact ⟨rfl, rfl⟩)
      · refine ⟨2, triedRow k, F, N, D, G, xb, yb, triedRow k, (up1 lN (triedRow k / 2) (lbN lastOf lastN lastD epsilonN epsilonD N D (triedAction (triedRow k / 2)))), (up1 lD (triedRow k / 2) (lbD lastOf lastN lastD epsilonN epsilonD N D (triedAction (triedRow k / 2)))), (up1 gN (triedRow k / 2) gn), (up1 gD (triedRow k / 2) (gbD lastOf lastN lastD N D (triedAction (triedRow k / 2)))), F9, N9, D9, B, Or.inl ⟨hf, rfl, rfl, rfl⟩, wN, by omega, fun _ _ => rfl, fun z => absurd z (by omega), ?_⟩
        refine Rg.step 28 F_Mo_walk_27 rfl (fun _ => rfl) ?_
        refine Rg.step 29 F_Mo_walk_28 rfl (fun _ => rfl) ?_
        refine Rg.getf 32 F_Mo_walk_29 rfl rF_26_283 (gM hp) rfl ?_
        refine Rg.icgeI 181 35 F_Mo_walk_32 rfl rfl (by omega) (by omega) (fun h32 => by omega) (fun _ => ?_)
        refine Rg.step 36 F_Mo_walk_35 rfl (fun _ => rfl) ?_
        refine Rg.step 37 F_Mo_walk_36 rfl (fun _ => rfl) ?_
        refine Rg.getf 40 F_Mo_walk_37 rfl rF_26_114 (gM hp) rfl ?_
        refine Rg.step 41 F_Mo_walk_40 rfl (fun _ => rfl) ?_
        refine Rg.ild 42 F_Mo_walk_41 rfl (gR_triedRow hp) (by omega) (by decide) ?_
        refine Rg.put 45 F_Mo_walk_42 rfl rF_26_305 (gM hp) (by decide) (Nat.le_of_ble_eq_true rfl) (Or.inl rfl) rfl (sM_point hp) ?_
        refine Rg.step 46 F_Mo_walk_45 rfl (fun _ => rfl) ?_
        refine Rg.getf 49 F_Mo_walk_46 rfl rF_26_305 (gM hp) rfl ?_
        refine Rg.step 50 F_Mo_walk_49 rfl (fun _ => rfl) ?_
        refine Rg.remIp 51 F_Mo_walk_50 rfl (by omega) (by omega) ?_
        refine Rg.ifneI 64 54 F_Mo_walk_51 rfl rfl (by omega) (fun h51 => by omega) (fun _ => ?_)
        refine Rg.step 55 F_Mo_walk_54 rfl (fun _ => rfl) ?_
        refine Rg.step 56 F_Mo_walk_55 rfl (fun _ => rfl) ?_
        refine Rg.getf 59 F_Mo_walk_56 rfl rF_26_305 (gM hp) rfl ?_
        refine Rg.step 60 F_Mo_walk_59 rfl (fun _ => rfl) ?_
        refine Rg.divIp 61 F_Mo_walk_60 rfl (by omega) (by omega) ?_
        refine Rg.call 64 F_Mo_walk_61 rfl (one_V rM_26_353 (by decide) (by simp) rfl rfl (gM hp) rfl) (Nat.le_of_ble_eq_true rfl) hbd ?_
        refine Rg.step 65 F_Mo_walk_64 rfl (fun _ => rfl) ?_
        refine Rg.step 66 F_Mo_walk_65 rfl (fun _ => rfl) ?_
        refine Rg.getf 69 F_Mo_walk_66 rfl rF_26_305 (gM hp) rfl ?_
        refine Rg.step 70 F_Mo_walk_69 rfl (fun _ => rfl) ?_
        refine Rg.divIp 71 F_Mo_walk_70 rfl (by omega) (by omega) ?_
        refine Rg.step 72 F_Mo_walk_71 rfl (fun _ => rfl) ?_
        refine Rg.getf 75 F_Mo_walk_72 rfl rF_26_305 (gM hp) rfl ?_
        refine Rg.call 78 F_Mo_walk_75 rfl (one_S (by decide +kernel) rM_26_248 (by decide) (by simp) rfl rfl) (Nat.le_of_ble_eq_true rfl) (Cg.any (c_Mo_timeOf (by omega))) ?_
        refine Rg.call 81 F_Mo_walk_78 rfl (one_V rM_26_299 (by decide) (by simp) rfl rfl (gM hp) rfl) (Nat.le_of_ble_eq_true rfl) (Cg.any (c_Mo_isFit hp hw wN (by omega) a1 (by omega))) ?_
        refine Rg.ifneP 86 84 F_Mo_walk_81 rfl rfl (fun h81 => absurd h81 hf) (fun _ => ?_)
        refine Rg.step 85 F_Mo_walk_84 rfl (fun _ => rfl) ?_
        exact Rg.retI F_Mo_walk_85 rfl rfl rfl
    · skip
      have hB2 : BOK (up1 G (triedRow k) True) B lN lD gN gD := by
        intro r z1 z2
        rw [up1_ne _ _ (by omega)] at z2
        exact hB r z1 z2
      by_cases hf : fit needs needTime needOf needHow needN needD F N D (triedAction (triedRow k / 2)) (tmo (triedRow k))
      · cases hc : (fun S p => chAll changeTime changeOf changeHow changeN changeD (tmo p) (changes (triedAction (p / 2))).toNat (6 * triedAction (p / 2)) S) (F, N, D) (triedRow k) with
        | none =>
          obtain ⟨F0, N0, D0, x0, y0, hca⟩ := c_Mo_allChanged_no (d := d) (pre := pre) (post := post) (code := code) (amountN := amountN) (amountD := amountD) (momentN := momentN) (momentD := momentD) (epsilonN := epsilonN) (epsilonD := epsilonD) (firstFacts := firstFacts) (firstN := firstN) (firstD := firstD) (wishes := wishes) (wants := wants) (wantN := wantN) (wantD := wantD) (actions := actions) (needs := needs) (needTime := needTime) (needOf := needOf) (needHow := needHow) (needN := needN) (needD := needD) (changes := changes) (changeTime := changeTime) (changeOf := changeOf) (changeHow := changeHow) (changeN := changeN) (changeD := changeD) (lastOf := lastOf) (lastN := lastN) (lastD := lastD) (steps := steps) (stepAction := stepAction) (startN := startN) (startD := startD) (lengthN := lengthN) (lengthD := lengthD) (rows := rows) (row := row) (tried := tried) (triedAction := triedAction) (triedRows := triedRows) (triedRow := triedRow) (times := times) (unit := unit) (facts := F) (numN := N) (numD := D) (oldFacts := F) (oldN := N) (oldD := D) (point := (triedRow k)) (judged := judged) (fault := fault) (faultPoint := faultPoint) (toldFacts := toldFacts) (toldN := toldN) (toldD := toldD) (outN := x) (outD := y) (pointN := pointN) (pointD := pointD) (gone := G) (now := now) (leastN := lN) (leastD := lD) (greatestN := gN) (greatestD := gD) (events := events) hp hw (p := triedRow k) (by omega) a1 wN hc
          refine ⟨4, triedRow k, F, N, D, G, x0, y0, triedRow k, lN, lD, gN, gD, F, N, D, B, Or.inr ⟨hf, Or.inl ⟨hc, rfl, rfl, rfl⟩⟩, wN, by omega, fun _ _ => rfl, fun z => absurd z (by omega), ?_⟩
          refine Rg.step 28 F_Mo_walk_27 rfl (fun _ => rfl) ?_
          refine Rg.step 29 F_Mo_walk_28 rfl (fun _ => rfl) ?_
          refine Rg.getf 32 F_Mo_walk_29 rfl rF_26_283 (gM hp) rfl ?_
          refine Rg.icgeI 181 35 F_Mo_walk_32 rfl rfl (by omega) (by omega) (fun h32 => by omega) (fun _ => ?_)
          refine Rg.step 36 F_Mo_walk_35 rfl (fun _ => rfl) ?_
          refine Rg.step 37 F_Mo_walk_36 rfl (fun _ => rfl) ?_
          refine Rg.getf 40 F_Mo_walk_37 rfl rF_26_114 (gM hp) rfl ?_
          refine Rg.step 41 F_Mo_walk_40 rfl (fun _ => rfl) ?_
          refine Rg.ild 42 F_Mo_walk_41 rfl (gR_triedRow hp) (by omega) (by decide) ?_
          refine Rg.put 45 F_Mo_walk_42 rfl rF_26_305 (gM hp) (by decide) (Nat.le_of_ble_eq_true rfl) (Or.inl rfl) rfl (sM_point hp) ?_
          refine Rg.step 46 F_Mo_walk_45 rfl (fun _ => rfl) ?_
          refine Rg.getf 49 F_Mo_walk_46 rfl rF_26_305 (gM hp) rfl ?_
          refine Rg.step 50 F_Mo_walk_49 rfl (fun _ => rfl) ?_
          refine Rg.remIp 51 F_Mo_walk_50 rfl (by omega) (by omega) ?_
          refine Rg.ifneI 64 54 F_Mo_walk_51 rfl rfl (by omega) (fun _ => ?_) (fun h51 => by omega)
          refine Rg.step 65 F_Mo_walk_64 rfl (fun _ => rfl) ?_
          refine Rg.step 66 F_Mo_walk_65 rfl (fun _ => rfl) ?_
          refine Rg.getf 69 F_Mo_walk_66 rfl rF_26_305 (gM hp) rfl ?_
          refine Rg.step 70 F_Mo_walk_69 rfl (fun _ => rfl) ?_
          refine Rg.divIp 71 F_Mo_walk_70 rfl (by omega) (by omega) ?_
          refine Rg.step 72 F_Mo_walk_71 rfl (fun _ => rfl) ?_
          refine Rg.getf 75 F_Mo_walk_72 rfl rF_26_305 (gM hp) rfl ?_
          refine Rg.call 78 F_Mo_walk_75 rfl (one_S (by decide +kernel) rM_26_248 (by decide) (by simp) rfl rfl) (Nat.le_of_ble_eq_true rfl) (Cg.any (c_Mo_timeOf (by omega))) ?_
          refine Rg.call 81 F_Mo_walk_78 rfl (one_V rM_26_299 (by decide) (by simp) rfl rfl (gM hp) rfl) (Nat.le_of_ble_eq_true rfl) (Cg.any (c_Mo_isFit hp hw wN (by omega) a1 (by omega))) ?_
          refine Rg.ifneP 86 84 F_Mo_walk_81 rfl rfl (fun _ => ?_) (fun h81 => absurd hf h81)
          refine Rg.step 87 F_Mo_walk_86 rfl (fun _ => rfl) ?_
          refine Rg.call 90 F_Mo_walk_87 rfl (one_V rM_26_311 (by decide) (by simp) rfl rfl (gM hp) rfl) (Nat.le_of_ble_eq_true rfl) (c_Mo_keepState hp) ?_
          refine Rg.step 91 F_Mo_walk_90 rfl (fun _ => rfl) ?_
          refine Rg.step 92 F_Mo_walk_91 rfl (fun _ => rfl) ?_
          refine Rg.getf 95 F_Mo_walk_92 rfl rF_26_305 (gM hp) rfl ?_
          refine Rg.call 98 F_Mo_walk_95 rfl (one_V rM_26_314 (by decide) (by simp) rfl rfl (gM hp) rfl) (Nat.le_of_ble_eq_true rfl) hca ?_
          refine Rg.ifneP 107 101 F_Mo_walk_98 rfl rfl (fun h98 => absurd h98 (fun z => z)) (fun _ => ?_)
          refine Rg.step 102 F_Mo_walk_101 rfl (fun _ => rfl) ?_
          refine Rg.call 105 F_Mo_walk_102 rfl (one_V rM_26_317 (by decide) (by simp) rfl rfl (gM hp) rfl) (Nat.le_of_ble_eq_true rfl) (c_Mo_oldState hp) ?_
          refine Rg.step 106 F_Mo_walk_105 rfl (fun _ => rfl) ?_
          exact Rg.retI F_Mo_walk_106 rfl rfl rfl
        | some S1 =>
          obtain ⟨F0, N0, D0⟩ := S1
          obtain ⟨w0, x0, y0, hca⟩ := c_Mo_allChanged (d := d) (pre := pre) (post := post) (code := code) (amountN := amountN) (amountD := amountD) (momentN := momentN) (momentD := momentD) (epsilonN := epsilonN) (epsilonD := epsilonD) (firstFacts := firstFacts) (firstN := firstN) (firstD := firstD) (wishes := wishes) (wants := wants) (wantN := wantN) (wantD := wantD) (actions := actions) (needs := needs) (needTime := needTime) (needOf := needOf) (needHow := needHow) (needN := needN) (needD := needD) (changes := changes) (changeTime := changeTime) (changeOf := changeOf) (changeHow := changeHow) (changeN := changeN) (changeD := changeD) (lastOf := lastOf) (lastN := lastN) (lastD := lastD) (steps := steps) (stepAction := stepAction) (startN := startN) (startD := startD) (lengthN := lengthN) (lengthD := lengthD) (rows := rows) (row := row) (tried := tried) (triedAction := triedAction) (triedRows := triedRows) (triedRow := triedRow) (times := times) (unit := unit) (facts := F) (numN := N) (numD := D) (oldFacts := F) (oldN := N) (oldD := D) (point := (triedRow k)) (judged := judged) (fault := fault) (faultPoint := faultPoint) (toldFacts := toldFacts) (toldN := toldN) (toldD := toldD) (outN := x) (outD := y) (pointN := pointN) (pointD := pointD) (gone := G) (now := now) (leastN := lN) (leastD := lD) (greatestN := gN) (greatestD := gD) (events := events) hp hw (p := triedRow k) (by omega) a1 wN hc
          rcases fst_or (fun s => badS (fun S s t => fit needs needTime needOf needHow needN needD S.1 S.2.1 S.2.2 (triedAction s) t) (up1 G (triedRow k) True) (F0, N0, D0) s) tried wU.1 with ⟨s, s1, s2, s3, s4⟩ | ns
          · have hr5 := walk_over5 (d := d) (n0 := n0) (pre := pre) (post := post) (code := code) (amountN := amountN) (amountD := amountD) (momentN := momentN) (momentD := momentD) (epsilonN := epsilonN) (epsilonD := epsilonD) (firstFacts := firstFacts) (firstN := firstN) (firstD := firstD) (wishes := wishes) (wants := wants) (wantN := wantN) (wantD := wantD) (actions := actions) (needs := needs) (needTime := needTime) (needOf := needOf) (needHow := needHow) (needN := needN) (needD := needD) (changes := changes) (changeTime := changeTime) (changeOf := changeOf) (changeHow := changeHow) (changeN := changeN) (changeD := changeD) (lastOf := lastOf) (lastN := lastN) (lastD := lastD) (steps := steps) (stepAction := stepAction) (startN := startN) (startD := startD) (lengthN := lengthN) (lengthD := lengthD) (rows := rows) (row := row) (tried := tried) (triedAction := triedAction) (triedRows := triedRows) (triedRow := triedRow) (times := times) (unit := unit) (facts := F0) (numN := N0) (numD := D0) (oldFacts := F) (oldN := N) (oldD := D) (judged := judged) (fault := fault) (faultPoint := faultPoint) (toldFacts := toldFacts) (toldN := toldN) (toldD := toldD) (outN := x0) (outD := y0) (pointN := pointN) (pointD := pointD) (gone := (up1 G (triedRow k) True)) (now := now) (leastN := lN) (leastD := lD) (greatestN := gN) (greatestD := gD) (events := events) hp hw wU hact w0 (k := k) s2 s3 s.toNat 0 (triedRow k) (by omega) (by omega) (fun r z1 z2 => s4 r z1 z2)
            refine ⟨5, 2 * s, F0, N0, D0, (up1 G (triedRow k) True), x0, y0, 2 * s, lN, lD, gN, gD, F, N, D, B, Or.inr ⟨hf, Or.inr ⟨(F0, N0, D0), hc, Or.inl ⟨s, rfl, s1, s2, s3, s4, rfl, rfl⟩⟩⟩, w0, by omega, fun _ _ => rfl, fun z => absurd z (by omega), ?_⟩
            refine Rg.step 28 F_Mo_walk_27 rfl (fun _ => rfl) ?_
            refine Rg.step 29 F_Mo_walk_28 rfl (fun _ => rfl) ?_
            refine Rg.getf 32 F_Mo_walk_29 rfl rF_26_283 (gM hp) rfl ?_
            refine Rg.icgeI 181 35 F_Mo_walk_32 rfl rfl (by omega) (by omega) (fun h32 => by omega) (fun _ => ?_)
            refine Rg.step 36 F_Mo_walk_35 rfl (fun _ => rfl) ?_
            refine Rg.step 37 F_Mo_walk_36 rfl (fun _ => rfl) ?_
            refine Rg.getf 40 F_Mo_walk_37 rfl rF_26_114 (gM hp) rfl ?_
            refine Rg.step 41 F_Mo_walk_40 rfl (fun _ => rfl) ?_
            refine Rg.ild 42 F_Mo_walk_41 rfl (gR_triedRow hp) (by omega) (by decide) ?_
            refine Rg.put 45 F_Mo_walk_42 rfl rF_26_305 (gM hp) (by decide) (Nat.le_of_ble_eq_true rfl) (Or.inl rfl) rfl (sM_point hp) ?_
            refine Rg.step 46 F_Mo_walk_45 rfl (fun _ => rfl) ?_
            refine Rg.getf 49 F_Mo_walk_46 rfl rF_26_305 (gM hp) rfl ?_
            refine Rg.step 50 F_Mo_walk_49 rfl (fun _ => rfl) ?_
            refine Rg.remIp 51 F_Mo_walk_50 rfl (by omega) (by omega) ?_
            refine Rg.ifneI 64 54 F_Mo_walk_51 rfl rfl (by omega) (fun _ => ?_) (fun h51 => by omega)
            refine Rg.step 65 F_Mo_walk_64 rfl (fun _ => rfl) ?_
            refine Rg.step 66 F_Mo_walk_65 rfl (fun _ => rfl) ?_
            refine Rg.getf 69 F_Mo_walk_66 rfl rF_26_305 (gM hp) rfl ?_
            refine Rg.step 70 F_Mo_walk_69 rfl (fun _ => rfl) ?_
            refine Rg.divIp 71 F_Mo_walk_70 rfl (by omega) (by omega) ?_
            refine Rg.step 72 F_Mo_walk_71 rfl (fun _ => rfl) ?_
            refine Rg.getf 75 F_Mo_walk_72 rfl rF_26_305 (gM hp) rfl ?_
            refine Rg.call 78 F_Mo_walk_75 rfl (one_S (by decide +kernel) rM_26_248 (by decide) (by simp) rfl rfl) (Nat.le_of_ble_eq_true rfl) (Cg.any (c_Mo_timeOf (by omega))) ?_
            refine Rg.call 81 F_Mo_walk_78 rfl (one_V rM_26_299 (by decide) (by simp) rfl rfl (gM hp) rfl) (Nat.le_of_ble_eq_true rfl) (Cg.any (c_Mo_isFit hp hw wN (by omega) a1 (by omega))) ?_
            refine Rg.ifneP 86 84 F_Mo_walk_81 rfl rfl (fun _ => ?_) (fun h81 => absurd hf h81)
            refine Rg.step 87 F_Mo_walk_86 rfl (fun _ => rfl) ?_
            refine Rg.call 90 F_Mo_walk_87 rfl (one_V rM_26_311 (by decide) (by simp) rfl rfl (gM hp) rfl) (Nat.le_of_ble_eq_true rfl) (c_Mo_keepState hp) ?_
            refine Rg.step 91 F_Mo_walk_90 rfl (fun _ => rfl) ?_
            refine Rg.step 92 F_Mo_walk_91 rfl (fun _ => rfl) ?_
            refine Rg.getf 95 F_Mo_walk_92 rfl rF_26_305 (gM hp) rfl ?_
            refine Rg.call 98 F_Mo_walk_95 rfl (one_V rM_26_314 (by decide) (by simp) rfl rfl (gM hp) rfl) (Nat.le_of_ble_eq_true rfl) hca ?_
            refine Rg.ifneP 107 101 F_Mo_walk_98 rfl rfl (fun _ => ?_) (fun h98 => absurd trivial h98)
            refine Rg.step 108 F_Mo_walk_107 rfl (fun _ => rfl) ?_
            refine Rg.getf 111 F_Mo_walk_108 rfl rF_26_157 (gM hp) rfl ?_
            refine Rg.step 112 F_Mo_walk_111 rfl (fun _ => rfl) ?_
            refine Rg.getf 115 F_Mo_walk_112 rfl rF_26_305 (gM hp) rfl ?_
            refine Rg.cP1 (B := True) 116 F_Mo_walk_115 rfl trivial ?_
            refine Rg.zst 117 F_Mo_walk_116 rfl (gR_gone hp) (by decide) (sR_gone hp) (by omega) (by decide) ?_
            refine Rg.step 118 F_Mo_walk_117 rfl (fun _ => rfl) ?_
            refine Rg.step 119 F_Mo_walk_118 rfl (fun _ => rfl) ?_
            exact Rg.weak hr5 (by simp [lput1, lput2, Value.category, fi0, fi1, fi2, fi3] <;> first | rfl | exact ⟨rfl, rfl⟩) (by simp [lput1, lput2, Value.category, fi0, fi1, fi2, fi3] <;> first | rfl | exact ⟨rfl, rfl⟩)
          · obtain ⟨z0, hr0⟩ := walk_over (d := d) (n0 := n0) (pre := pre) (post := post) (code := code) (amountN := amountN) (amountD := amountD) (momentN := momentN) (momentD := momentD) (epsilonN := epsilonN) (epsilonD := epsilonD) (firstFacts := firstFacts) (firstN := firstN) (firstD := firstD) (wishes := wishes) (wants := wants) (wantN := wantN) (wantD := wantD) (actions := actions) (needs := needs) (needTime := needTime) (needOf := needOf) (needHow := needHow) (needN := needN) (needD := needD) (changes := changes) (changeTime := changeTime) (changeOf := changeOf) (changeHow := changeHow) (changeN := changeN) (changeD := changeD) (lastOf := lastOf) (lastN := lastN) (lastD := lastD) (steps := steps) (stepAction := stepAction) (startN := startN) (startD := startD) (lengthN := lengthN) (lengthD := lengthD) (rows := rows) (row := row) (tried := tried) (triedAction := triedAction) (triedRows := triedRows) (triedRow := triedRow) (times := times) (unit := unit) (facts := F0) (numN := N0) (numD := D0) (oldFacts := F) (oldN := N) (oldD := D) (judged := judged) (fault := fault) (faultPoint := faultPoint) (toldFacts := toldFacts) (toldN := toldN) (toldD := toldD) (outN := x0) (outD := y0) (pointN := pointN) (pointD := pointD) (gone := (up1 G (triedRow k) True)) (now := now) (leastN := lN) (leastD := lD) (greatestN := gN) (greatestD := gD) (events := events) hp hw wU hact w0 (k := k) tried.toNat 0 (triedRow k) (by omega) (by omega) (fun r z1 z2 => ns r z1 z2)
            obtain ⟨why, pt, F1, N1, D1, G1, x1, y1, p1, lN1, lD1, gN1, gD1, F2, N2, D2, B1, hW, wN1, hwy, hp1, hfin, ht⟩ := ih (k + 1) F0 N0 D0 (up1 G (triedRow k) True) x0 y0 z0 lN lD gN gD F N D B (by omega) (by omega) w0 hB2
            refine ⟨why, pt, F1, N1, D1, G1, x1, y1, p1, lN1, lD1, gN1, gD1, F2, N2, D2, B1, Or.inr ⟨hf, Or.inr ⟨(F0, N0, D0), hc, Or.inr ⟨ns, by rw [if_neg he]; exact hW⟩⟩⟩, wN1, hwy, hp1, fun z => ⟨(hfin z).1, fun p => Iff.trans ((hfin z).2 p) ⟨?_, ?_⟩⟩, ?_⟩
            · rintro (z1 | ⟨j, z1, z2, z3⟩)
              · by_cases hq : p = triedRow k
                · exact Or.inr ⟨k, by omega, by omega, hq.symm⟩
                · rw [up1_ne _ _ hq] at z1
                  exact Or.inl z1
              · exact Or.inr ⟨j, by omega, z2, z3⟩
            · rintro (z1 | ⟨j, z1, z2, z3⟩)
              · by_cases hq : p = triedRow k
                · exact Or.inl (by rw [hq, up1_eq]; trivial)
                · exact Or.inl (by rw [up1_ne _ _ hq]; exact z1)
              · by_cases hj : j = k
                · exact Or.inl (by rw [← z3, hj, up1_eq]; trivial)
                · exact Or.inr ⟨j, by omega, z2, z3⟩
            · skip
              refine Rg.step 28 F_Mo_walk_27 rfl (fun _ => rfl) ?_
              refine Rg.step 29 F_Mo_walk_28 rfl (fun _ => rfl) ?_
              refine Rg.getf 32 F_Mo_walk_29 rfl rF_26_283 (gM hp) rfl ?_
              refine Rg.icgeI 181 35 F_Mo_walk_32 rfl rfl (by omega) (by omega) (fun h32 => by omega) (fun _ => ?_)
              refine Rg.step 36 F_Mo_walk_35 rfl (fun _ => rfl) ?_
              refine Rg.step 37 F_Mo_walk_36 rfl (fun _ => rfl) ?_
              refine Rg.getf 40 F_Mo_walk_37 rfl rF_26_114 (gM hp) rfl ?_
              refine Rg.step 41 F_Mo_walk_40 rfl (fun _ => rfl) ?_
              refine Rg.ild 42 F_Mo_walk_41 rfl (gR_triedRow hp) (by omega) (by decide) ?_
              refine Rg.put 45 F_Mo_walk_42 rfl rF_26_305 (gM hp) (by decide) (Nat.le_of_ble_eq_true rfl) (Or.inl rfl) rfl (sM_point hp) ?_
              refine Rg.step 46 F_Mo_walk_45 rfl (fun _ => rfl) ?_
              refine Rg.getf 49 F_Mo_walk_46 rfl rF_26_305 (gM hp) rfl ?_
              refine Rg.step 50 F_Mo_walk_49 rfl (fun _ => rfl) ?_
              refine Rg.remIp 51 F_Mo_walk_50 rfl (by omega) (by omega) ?_
              refine Rg.ifneI 64 54 F_Mo_walk_51 rfl rfl (by omega) (fun _ => ?_) (fun h51 => by omega)
              refine Rg.step 65 F_Mo_walk_64 rfl (fun _ => rfl) ?_
              refine Rg.step 66 F_Mo_walk_65 rfl (fun _ => rfl) ?_
              refine Rg.getf 69 F_Mo_walk_66 rfl rF_26_305 (gM hp) rfl ?_
              refine Rg.step 70 F_Mo_walk_69 rfl (fun _ => rfl) ?_
              refine Rg.divIp 71 F_Mo_walk_70 rfl (by omega) (by omega) ?_
              refine Rg.step 72 F_Mo_walk_71 rfl (fun _ => rfl) ?_
              refine Rg.getf 75 F_Mo_walk_72 rfl rF_26_305 (gM hp) rfl ?_
              refine Rg.call 78 F_Mo_walk_75 rfl (one_S (by decide +kernel) rM_26_248 (by decide) (by simp) rfl rfl) (Nat.le_of_ble_eq_true rfl) (Cg.any (c_Mo_timeOf (by omega))) ?_
              refine Rg.call 81 F_Mo_walk_78 rfl (one_V rM_26_299 (by decide) (by simp) rfl rfl (gM hp) rfl) (Nat.le_of_ble_eq_true rfl) (Cg.any (c_Mo_isFit hp hw wN (by omega) a1 (by omega))) ?_
              refine Rg.ifneP 86 84 F_Mo_walk_81 rfl rfl (fun _ => ?_) (fun h81 => absurd hf h81)
              refine Rg.step 87 F_Mo_walk_86 rfl (fun _ => rfl) ?_
              refine Rg.call 90 F_Mo_walk_87 rfl (one_V rM_26_311 (by decide) (by simp) rfl rfl (gM hp) rfl) (Nat.le_of_ble_eq_true rfl) (c_Mo_keepState hp) ?_
              refine Rg.step 91 F_Mo_walk_90 rfl (fun _ => rfl) ?_
              refine Rg.step 92 F_Mo_walk_91 rfl (fun _ => rfl) ?_
              refine Rg.getf 95 F_Mo_walk_92 rfl rF_26_305 (gM hp) rfl ?_
              refine Rg.call 98 F_Mo_walk_95 rfl (one_V rM_26_314 (by decide) (by simp) rfl rfl (gM hp) rfl) (Nat.le_of_ble_eq_true rfl) hca ?_
              refine Rg.ifneP 107 101 F_Mo_walk_98 rfl rfl (fun _ => ?_) (fun h98 => absurd trivial h98)
              refine Rg.step 108 F_Mo_walk_107 rfl (fun _ => rfl) ?_
              refine Rg.getf 111 F_Mo_walk_108 rfl rF_26_157 (gM hp) rfl ?_
              refine Rg.step 112 F_Mo_walk_111 rfl (fun _ => rfl) ?_
              refine Rg.getf 115 F_Mo_walk_112 rfl rF_26_305 (gM hp) rfl ?_
              refine Rg.cP1 (B := True) 116 F_Mo_walk_115 rfl trivial ?_
              refine Rg.zst 117 F_Mo_walk_116 rfl (gR_gone hp) (by decide) (sR_gone hp) (by omega) (by decide) ?_
              refine Rg.step 118 F_Mo_walk_117 rfl (fun _ => rfl) ?_
              refine Rg.step 119 F_Mo_walk_118 rfl (fun _ => rfl) ?_
              refine Rg.weak (hr0 _ _ ?_) (by simp [lput1, lput2, Value.category, fi0, fi1, fi2, fi3] <;> first | rfl | exact ⟨rfl, rfl⟩) (by simp [lput1, lput2, Value.category, fi0, fi1, fi2, fi3] <;> first | rfl | exact ⟨rfl, rfl⟩)
              refine Rg.inc 178 F_Mo_walk_175 rfl rfl (by decide) ?_
              refine Rg.step 27 F_Mo_walk_178 rfl (fun _ => rfl) ?_
              exact Rg.weak ht (by simp [lput1, lput2, Value.category, fi0, fi1, fi2, fi3] <;> first | rfl | exact ⟨rfl, rfl⟩) (by simp [lput1, lput2, Value.category, fi0, fi1, fi2, fi3] <;> first | rfl | exact ⟨rfl, rfl⟩)
      · refine ⟨2, triedRow k, F, N, D, G, x, y, triedRow k, lN, lD, gN, gD, F9, N9, D9, B, Or.inl ⟨hf, rfl, rfl, rfl⟩, wN, by omega, fun _ _ => rfl, fun z => absurd z (by omega), ?_⟩
        refine Rg.step 28 F_Mo_walk_27 rfl (fun _ => rfl) ?_
        refine Rg.step 29 F_Mo_walk_28 rfl (fun _ => rfl) ?_
        refine Rg.getf 32 F_Mo_walk_29 rfl rF_26_283 (gM hp) rfl ?_
        refine Rg.icgeI 181 35 F_Mo_walk_32 rfl rfl (by omega) (by omega) (fun h32 => by omega) (fun _ => ?_)
        refine Rg.step 36 F_Mo_walk_35 rfl (fun _ => rfl) ?_
        refine Rg.step 37 F_Mo_walk_36 rfl (fun _ => rfl) ?_
        refine Rg.getf 40 F_Mo_walk_37 rfl rF_26_114 (gM hp) rfl ?_
        refine Rg.step 41 F_Mo_walk_40 rfl (fun _ => rfl) ?_
        refine Rg.ild 42 F_Mo_walk_41 rfl (gR_triedRow hp) (by omega) (by decide) ?_
        refine Rg.put 45 F_Mo_walk_42 rfl rF_26_305 (gM hp) (by decide) (Nat.le_of_ble_eq_true rfl) (Or.inl rfl) rfl (sM_point hp) ?_
        refine Rg.step 46 F_Mo_walk_45 rfl (fun _ => rfl) ?_
        refine Rg.getf 49 F_Mo_walk_46 rfl rF_26_305 (gM hp) rfl ?_
        refine Rg.step 50 F_Mo_walk_49 rfl (fun _ => rfl) ?_
        refine Rg.remIp 51 F_Mo_walk_50 rfl (by omega) (by omega) ?_
        refine Rg.ifneI 64 54 F_Mo_walk_51 rfl rfl (by omega) (fun _ => ?_) (fun h51 => by omega)
        refine Rg.step 65 F_Mo_walk_64 rfl (fun _ => rfl) ?_
        refine Rg.step 66 F_Mo_walk_65 rfl (fun _ => rfl) ?_
        refine Rg.getf 69 F_Mo_walk_66 rfl rF_26_305 (gM hp) rfl ?_
        refine Rg.step 70 F_Mo_walk_69 rfl (fun _ => rfl) ?_
        refine Rg.divIp 71 F_Mo_walk_70 rfl (by omega) (by omega) ?_
        refine Rg.step 72 F_Mo_walk_71 rfl (fun _ => rfl) ?_
        refine Rg.getf 75 F_Mo_walk_72 rfl rF_26_305 (gM hp) rfl ?_
        refine Rg.call 78 F_Mo_walk_75 rfl (one_S (by decide +kernel) rM_26_248 (by decide) (by simp) rfl rfl) (Nat.le_of_ble_eq_true rfl) (Cg.any (c_Mo_timeOf (by omega))) ?_
        refine Rg.call 81 F_Mo_walk_78 rfl (one_V rM_26_299 (by decide) (by simp) rfl rfl (gM hp) rfl) (Nat.le_of_ble_eq_true rfl) (Cg.any (c_Mo_isFit hp hw wN (by omega) a1 (by omega))) ?_
        refine Rg.ifneP 86 84 F_Mo_walk_81 rfl rfl (fun h81 => absurd h81 hf) (fun _ => ?_)
        refine Rg.step 85 F_Mo_walk_84 rfl (fun _ => rfl) ?_
        exact Rg.retI F_Mo_walk_85 rfl rfl rfl
theorem c_Mo_walk {d : Nat} (hp : pre.length = 168) (hw : WT epsilonN epsilonD wishes wants wantN wantD actions needs needTime needOf needHow needN needD changes changeTime changeOf changeHow changeN changeD lastOf lastN lastD firstN firstD) (wU : 0 ≤ tried ∧ tried ≤ 12) (hact : ∀ s, 0 ≤ s → s < tried → 0 ≤ triedAction s ∧ triedAction s < actions) (wV : 0 ≤ triedRows ∧ triedRows ≤ 24) (hrow : ∀ k, 0 ≤ k → k < triedRows → 0 ≤ triedRow k ∧ triedRow k < 2 * tried) (B : Int → NB) : ∃ (why pt : Int) (F1 : Int → Prop) (N1 D1 : Int → Int) (G1 : Int → Prop) (x1 y1 p1 : Int) (lN1 lD1 gN1 gD1 : Int → Int) (F2 : Int → Prop) (N2 D2 : Int → Int) (B1 : Int → NB), WalkR tried triedRow (fun S s t => fit needs needTime needOf needHow needN needD S.1 S.2.1 S.2.2 (triedAction s) t) (fun S p => chAll changeTime changeOf changeHow changeN changeD (tmo p) (changes (triedAction (p / 2))).toNat (6 * triedAction (p / 2)) S) (fun S s => (lbN lastOf lastN lastD epsilonN epsilonD S.2.1 S.2.2 (triedAction s), lbD lastOf lastN lastD epsilonN epsilonD S.2.1 S.2.2 (triedAction s), gbN lastOf lastN lastD S.2.1 S.2.2 (triedAction s), gbD lastOf lastN lastD S.2.1 S.2.2 (triedAction s))) (fun S => goal wishes wants wantN wantD S.1 S.2.1 S.2.2) triedRows.toNat 0 (fun _ => False) (firstFacts, firstN, firstD) B why pt (F1, N1, D1) B1 ∧ WN N1 D1 ∧ (0 ≤ why ∧ why ≤ 6) ∧ (1 ≤ why → why ≤ 5 → p1 = pt) ∧ (why = 0 → BOK G1 B1 lN1 lD1 gN1 gD1 ∧ ∀ p, G1 p ↔ ((fun _ => False) p ∨ ∃ j, 0 ≤ j ∧ j < triedRows ∧ triedRow j = p)) ∧ Cg false (d + 5) m_Mo_walk [.ref 168] (MR pre code amountN amountD momentN momentD epsilonN epsilonD firstFacts firstN firstD wishes wants wantN wantD actions needs needTime needOf needHow needN needD changes changeTime changeOf changeHow changeN changeD lastOf lastN lastD steps stepAction startN startD lengthN lengthD rows row tried triedAction triedRows triedRow times unit facts numN numD oldFacts oldN oldD point judged fault faultPoint toldFacts toldN toldD outN outD pointN pointD gone now leastN leastD greatestN greatestD events post) (.inl (some (.int (iI why)))) (MR pre code amountN amountD momentN momentD epsilonN epsilonD firstFacts firstN firstD wishes wants wantN wantD actions needs needTime needOf needHow needN needD changes changeTime changeOf changeHow changeN changeD lastOf lastN lastD steps stepAction startN startD lengthN lengthD rows row tried triedAction triedRows triedRow times unit F1 N1 D1 F2 N2 D2 p1 judged fault faultPoint toldFacts toldN toldD x1 y1 pointN pointD G1 now lN1 lD1 gN1 gD1 events post) := by
  obtain ⟨-, -, -, -, -, -, -, -, -, -, -, -, -, -, -, -, -, -, -, -, wF⟩ := id hw
  have wN0 : WN firstN firstD := fun n => by have := wF n; omega
  obtain ⟨why, pt, F1, N1, D1, G1, x1, y1, p1, lN1, lD1, gN1, gD1, F2, N2, D2, B1, hW, wN1, hwy, hp1, hfin, ht⟩ := walk_loop (d := d) (n0 := (MR pre code amountN amountD momentN momentD epsilonN epsilonD firstFacts firstN firstD wishes wants wantN wantD actions needs needTime needOf needHow needN needD changes changeTime changeOf changeHow changeN changeD lastOf lastN lastD steps stepAction startN startD lengthN lengthD rows row tried triedAction triedRows triedRow times unit facts numN numD oldFacts oldN oldD point judged fault faultPoint toldFacts toldN toldD outN outD pointN pointD gone now leastN leastD greatestN greatestD events post).length) (pre := pre) (post := post) (code := code) (amountN := amountN) (amountD := amountD) (momentN := momentN) (momentD := momentD) (epsilonN := epsilonN) (epsilonD := epsilonD) (firstFacts := firstFacts) (firstN := firstN) (firstD := firstD) (wishes := wishes) (wants := wants) (wantN := wantN) (wantD := wantD) (actions := actions) (needs := needs) (needTime := needTime) (needOf := needOf) (needHow := needHow) (needN := needN) (needD := needD) (changes := changes) (changeTime := changeTime) (changeOf := changeOf) (changeHow := changeHow) (changeN := changeN) (changeD := changeD) (lastOf := lastOf) (lastN := lastN) (lastD := lastD) (steps := steps) (stepAction := stepAction) (startN := startN) (startD := startD) (lengthN := lengthN) (lengthD := lengthD) (rows := rows) (row := row) (tried := tried) (triedAction := triedAction) (triedRows := triedRows) (triedRow := triedRow) (times := times) (unit := unit) (judged := judged) (fault := fault) (faultPoint := faultPoint) (toldFacts := toldFacts) (toldN := toldN) (toldD := toldD) (pointN := pointN) (pointD := pointD) (now := now) (events := events) hp hw wU hact wV hrow triedRows.toNat 0 firstFacts firstN firstD (fun _ => False) outN outD point leastN leastD greatestN greatestD oldFacts oldN oldD B (by omega) (by omega) wN0 (fun r z1 z2 => z2.elim)
  refine ⟨why, pt, F1, N1, D1, G1, x1, y1, p1, lN1, lD1, gN1, gD1, F2, N2, D2, B1, hW, wN1, hwy, hp1, hfin, ?_⟩
  refine Cg.of (Nat.le_of_ble_eq_true rfl) ?_
  change Rg _ _ _ _ 0 [(0, .ref 168)] [] _ _ _
  refine Rg.step 1 F_Mo_walk_0 rfl (fun _ => rfl) ?_
  refine Rg.call 4 F_Mo_walk_1 rfl (one_V rM_26_333 (by decide) (by simp) rfl rfl (gM hp) rfl) (Nat.le_of_ble_eq_true rfl) (c_Mo_beginState hp) ?_
  refine Rg.step 5 F_Mo_walk_4 rfl (fun _ => rfl) ?_
  refine Rg.step 6 F_Mo_walk_5 rfl (fun _ => rfl) ?_
  refine Rg.frM (kR_gone (mix0_Z (fun _ => False) gone)) (Rg.weak (walk_gone hp ?_ 24 0 (by omega) (by omega)) (by simp [lput1, lput2, Value.category, fi0, fi1, fi2, fi3] <;> first | rfl | exact ⟨rfl, rfl⟩) (by simp [lput1, lput2, Value.category, fi0, fi1, fi2, fi3] <;> first | rfl | exact ⟨rfl, rfl⟩))
  refine Rg.frM (kR_gone (mix_Z (fun _ => False) gone)) ?_
  refine Rg.step 26 F_Mo_walk_25 rfl (fun _ => rfl) ?_
  refine Rg.step 27 F_Mo_walk_26 rfl (fun _ => rfl) ?_
  exact Rg.weak ht (by simp [lput1, lput2, Value.category, fi0, fi1, fi2, fi3] <;> first | rfl | exact ⟨rfl, rfl⟩) (by simp [lput1, lput2, Value.category, fi0, fi1, fi2, fi3] <;> first | rfl | exact ⟨rfl, rfl⟩)
end R53
