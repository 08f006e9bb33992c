/-! The reference: changes and durations. -/
abbrev NS : Type := (Int → Prop) × (Int → Int) × (Int → Int)
def altN (changeOf changeHow changeN changeD : Int → Int) (k : Int) (N D : Int → Int) : Int := nN (rawN (changeHow k) (N (changeOf k)) (D (changeOf k)) (changeN k) (changeD k)) (rawD (changeHow k) (D (changeOf k)) (changeD k))
def altD (changeOf changeHow changeN changeD : Int → Int) (k : Int) (N D : Int → Int) : Int := nD (rawN (changeHow k) (N (changeOf k)) (D (changeOf k)) (changeN k) (changeD k)) (rawD (changeHow k) (D (changeOf k)) (changeD k))
def longP (n d : Int) : Prop := 1000000000 < (n.natAbs : Int) ∨ 1000000000 < d
/-- the changes of an action at a time, in turn: none where a number becomes too long -/
noncomputable def chAll (changeTime changeOf changeHow changeN changeD : Int → Int) (t : Int) : Nat → Int → NS → Option NS
  | 0, _, S => some S
  | n + 1, k, S => if changeTime k = t then (if 9 < changeHow k then chAll changeTime changeOf changeHow changeN changeD t n (k + 1) (up1 S.1 (changeOf k) (changeHow k = 11), S.2)
      else @ite _ (longP (altN changeOf changeHow changeN changeD k S.2.1 S.2.2) (altD changeOf changeHow changeN changeD k S.2.1 S.2.2)) (Classical.propDecidable _) none
        (chAll changeTime changeOf changeHow changeN changeD t n (k + 1) (S.1, up1 S.2.1 (changeOf k) (altN changeOf changeHow changeN changeD k S.2.1 S.2.2), up1 S.2.2 (changeOf k) (altD changeOf changeHow changeN changeD k S.2.1 S.2.2))))
    else chAll changeTime changeOf changeHow changeN changeD t n (k + 1) S
section CHA
variable {changeTime changeOf changeHow changeN changeD : Int → Int} {t k : Int} {n : Nat} {F : Int → Prop} {N D : Int → Int}
theorem chAll_skip (h : ¬ changeTime k = t) : chAll changeTime changeOf changeHow changeN changeD t (n + 1) k (F, N, D) = chAll changeTime changeOf changeHow changeN changeD t n (k + 1) (F, N, D) := by rw [chAll, if_neg h]
theorem chAll_fact (h : changeTime k = t) (h9 : 9 < changeHow k) : chAll changeTime changeOf changeHow changeN changeD t (n + 1) k (F, N, D) = chAll changeTime changeOf changeHow changeN changeD t n (k + 1) (up1 F (changeOf k) (changeHow k = 11), N, D) := by rw [chAll, if_pos h, if_pos h9]
theorem chAll_bad (h : changeTime k = t) (h9 : ¬ 9 < changeHow k) (hl : longP (altN changeOf changeHow changeN changeD k N D) (altD changeOf changeHow changeN changeD k N D)) : chAll changeTime changeOf changeHow changeN changeD t (n + 1) k (F, N, D) = none := by rw [chAll, if_pos h, if_neg h9, if_pos hl]
theorem chAll_go (h : changeTime k = t) (h9 : ¬ 9 < changeHow k) (hl : ¬ longP (altN changeOf changeHow changeN changeD k N D) (altD changeOf changeHow changeN changeD k N D)) : chAll changeTime changeOf changeHow changeN changeD t (n + 1) k (F, N, D) = chAll changeTime changeOf changeHow changeN changeD t n (k + 1) (F, up1 N (changeOf k) (altN changeOf changeHow changeN changeD k N D), up1 D (changeOf k) (altD changeOf changeHow changeN changeD k N D)) := by rw [chAll, if_pos h, if_neg h9, if_neg hl]
end CHA
theorem nD_pos {n q : Int} (hq : 0 < q) : 0 < nD n q ∧ nD n q ≤ q := by
  have h1 := gcd_pos' (n := n) hq
  have h2 : (Int.gcd n q : Int) ∣ q := Int.gcd_dvd_right _ _
  unfold nD
  refine ⟨Int.ediv_pos_of_pos_of_dvd hq (by omega) h2, Int.ediv_le_self _ (by omega)⟩
theorem nN_bd {n q B : Int} (hq : 0 < q) (hB : -B ≤ n ∧ n ≤ B) : -B ≤ nN n q ∧ nN n q ≤ B := by
  have h1 := gcd_pos' (n := n) hq
  have h2 := ediv_bd (n := n) h1
  unfold nN
  omega
theorem WN_up {N D : Int → Int} {of a b : Int} (h : WN N D) (hb : 0 < b) (hl : ¬ longP a b) : WN (up1 N of a) (up1 D of b) := by
  intro n
  unfold longP at hl
  by_cases e1 : n = of
  · subst e1
    rw [up1_eq, up1_eq]
    omega
  · rw [up1_ne _ _ e1, up1_ne _ _ e1]
    exact h n
theorem alt_bd {changeOf changeHow changeN changeD : Int → Int} {k : Int} {N D : Int → Int} (hn : -1000000000 ≤ N (changeOf k) ∧ N (changeOf k) ≤ 1000000000 ∧ 0 < D (changeOf k) ∧ D (changeOf k) ≤ 1000000000) (hc : -100000 ≤ changeN k ∧ changeN k ≤ 100000 ∧ 0 ≤ changeD k ∧ changeD k ≤ 1000) (hd : 0 < changeD k) : -4611686018427387904 < altN changeOf changeHow changeN changeD k N D ∧ altN changeOf changeHow changeN changeD k N D < 4611686018427387904 := by
  have m1 := mul_bd (a := N (changeOf k)) (b := changeN k) (A := 1000000000) (B := 100000) (by omega) (by omega)
  have m2 := mul_bd (a := N (changeOf k)) (b := changeD k) (A := 1000000000) (B := 1000) (by omega) (by omega)
  have m3 := mul_bd (a := changeN k) (b := D (changeOf k)) (A := 100000) (B := 1000000000) (by omega) (by omega)
  have m4 := mul_ps (a := D (changeOf k)) (b := changeD k) (A := 1000000000) (B := 1000) (by omega) (by omega)
  have m5 : -changeN k * D (changeOf k) = -(changeN k * D (changeOf k)) := Int.neg_mul _ _
  have r1 : -200000000000000 ≤ rawN (changeHow k) (N (changeOf k)) (D (changeOf k)) (changeN k) (changeD k) ∧ rawN (changeHow k) (N (changeOf k)) (D (changeOf k)) (changeN k) (changeD k) ≤ 200000000000000 := by
    unfold rawN
    split
    · omega
    · split
      · omega
      · split <;> omega
  have r0 : 0 < rawD (changeHow k) (D (changeOf k)) (changeD k) := by
    unfold rawD
    split <;> omega
  have := nN_bd (B := 200000000000000) r0 r1
  unfold altN
  omega
section R47
variable {pre post mem : AM}
variable {code amountN amountD momentN momentD epsilonN epsilonD actions steps rows tried triedRows unit point judged fault faultPoint outN outD : Int}
variable {firstN firstD wishes wants wantN wantD needs needTime needOf needHow needN needD changes changeTime changeOf changeHow changeN changeD lastOf lastN lastD stepAction startN startD lengthN lengthD row triedAction triedRow times numN numD oldN oldD toldN toldD pointN pointD leastN leastD greatestN greatestD events : Int → Int}
variable {firstFacts facts oldFacts toldFacts gone now : Int → Prop}
theorem c_Mo_out2 {d : Nat} (hp : pre.length = 168) {xx yy n q : Int} (hx : xx = n) (hy : yy = q) (b_0 : -4611686018427387904 < n ∧ n < 4611686018427387904) (b_1 : -4611686018427387904 < q ∧ q < 4611686018427387904) (hq : 0 < q) : Cg false (d + 2) m_Mo_out [.ref 168, .long (lI xx), .long (lI yy)] (MR pre code amountN amountD momentN momentD epsilonN epsilonD firstFacts firstN firstD wishes wants wantN wantD actions needs needTime needOf needHow needN needD changes changeTime changeOf changeHow changeN changeD lastOf lastN lastD steps stepAction startN startD lengthN lengthD rows row tried triedAction triedRows triedRow times unit facts numN numD oldFacts oldN oldD point judged fault faultPoint toldFacts toldN toldD outN outD pointN pointD gone now leastN leastD greatestN greatestD events post) (.inl none) (MR pre code amountN amountD momentN momentD epsilonN epsilonD firstFacts firstN firstD wishes wants wantN wantD actions needs needTime needOf needHow needN needD changes changeTime changeOf changeHow changeN changeD lastOf lastN lastD steps stepAction startN startD lengthN lengthD rows row tried triedAction triedRows triedRow times unit facts numN numD oldFacts oldN oldD point judged fault faultPoint toldFacts toldN toldD (nN n q) (nD n q) pointN pointD gone now leastN leastD greatestN greatestD events post) := by
  subst hx
  subst hy
  exact c_Mo_out hp b_0 b_1 hq
theorem c_Mo_dur_no {d : Nat}  (hp : pre.length = 168) (hw : WT epsilonN epsilonD wishes wants wantN wantD actions needs needTime needOf needHow needN needD changes changeTime changeOf changeHow changeN changeD lastOf lastN lastD firstN firstD) {s which : Int} (h1 : 0 ≤ s ∧ s < 12) (h2 : 0 ≤ which ∧ which ≤ 1) (ha : 0 ≤ triedAction s ∧ triedAction s < actions) (h3 : lastOf (2 * triedAction s + which) = -2) : Cg true (d + 3) m_Mo_duration [.ref 168, .int (iI s), .int (iI which)] (MR pre code amountN amountD momentN momentD epsilonN epsilonD firstFacts firstN firstD wishes wants wantN wantD actions needs needTime needOf needHow needN needD changes changeTime changeOf changeHow changeN changeD lastOf lastN lastD steps stepAction startN startD lengthN lengthD rows row tried triedAction triedRows triedRow times unit facts numN numD oldFacts oldN oldD point judged fault faultPoint toldFacts toldN toldD outN outD pointN pointD gone now leastN leastD greatestN greatestD events post) (.inl (some (.int (bP False)))) (MR pre code amountN amountD momentN momentD epsilonN epsilonD firstFacts firstN firstD wishes wants wantN wantD actions needs needTime needOf needHow needN needD changes changeTime changeOf changeHow changeN changeD lastOf lastN lastD steps stepAction startN startD lengthN lengthD rows row tried triedAction triedRows triedRow times unit facts numN numD oldFacts oldN oldD point judged fault faultPoint toldFacts toldN toldD outN outD pointN pointD gone now leastN leastD greatestN greatestD events post) := by
  obtain ⟨-, -, -, -, wA, -, -, -, -, -, -, -, -, -, -, -, -, wL, -, -, -⟩ := id hw
  have c1 := wL (2 * triedAction s + which)
  refine Cg.of (Nat.le_of_ble_eq_true rfl) ?_
  change Rg _ _ _ _ 0 [(0, .ref 168), (1, .int (iI s)), (2, .int (iI which))] [] _ _ _
  refine Rg.step 1 F_Mo_duration_0 rfl (fun _ => rfl) ?_
  refine Rg.step 2 F_Mo_duration_1 rfl (fun _ => rfl) ?_
  refine Rg.getf 5 F_Mo_duration_2 rfl rF_26_111 (gM hp) rfl ?_
  refine Rg.step 6 F_Mo_duration_5 rfl (fun _ => rfl) ?_
  refine Rg.ild 7 F_Mo_duration_6 rfl (gR_triedAction hp) (by omega) (by decide) ?_
  refine Rg.mulI 8 F_Mo_duration_7 rfl ?_
  refine Rg.step 9 F_Mo_duration_8 rfl (fun _ => rfl) ?_
  refine Rg.addI 10 F_Mo_duration_9 rfl ?_
  refine Rg.step 11 F_Mo_duration_10 rfl (fun _ => rfl) ?_
  refine Rg.step 12 F_Mo_duration_11 rfl (fun _ => rfl) ?_
  refine Rg.getf 15 F_Mo_duration_12 rfl rF_26_84 (gM hp) rfl ?_
  refine Rg.step 16 F_Mo_duration_15 rfl (fun _ => rfl) ?_
  refine Rg.ild 17 F_Mo_duration_16 rfl (gR_lastOf hp) (by omega) (by decide) ?_
  refine Rg.bip 19 F_Mo_duration_17 rfl rfl ?_
  refine Rg.icneI 24 22 F_Mo_duration_19 rfl rfl (by omega) (by omega) (fun h19 => by omega) (fun _ => ?_)
  refine Rg.step 23 F_Mo_duration_22 rfl (fun _ => rfl) ?_
  exact Rg.ret0 F_Mo_duration_23 rfl (fun z => z) rfl
theorem c_Mo_dur_yes {d : Nat}  (hp : pre.length = 168) (hw : WT epsilonN epsilonD wishes wants wantN wantD actions needs needTime needOf needHow needN needD changes changeTime changeOf changeHow changeN changeD lastOf lastN lastD firstN firstD) {s which : Int} (h1 : 0 ≤ s ∧ s < 12) (h2 : 0 ≤ which ∧ which ≤ 1) (ha : 0 ≤ triedAction s ∧ triedAction s < actions) (wN : WN numN numD) (h3 : ¬ lastOf (2 * triedAction s + which) = -2) : Cg false (d + 3) m_Mo_duration [.ref 168, .int (iI s), .int (iI which)] (MR pre code amountN amountD momentN momentD epsilonN epsilonD firstFacts firstN firstD wishes wants wantN wantD actions needs needTime needOf needHow needN needD changes changeTime changeOf changeHow changeN changeD lastOf lastN lastD steps stepAction startN startD lengthN lengthD rows row tried triedAction triedRows triedRow times unit facts numN numD oldFacts oldN oldD point judged fault faultPoint toldFacts toldN toldD outN outD pointN pointD gone now leastN leastD greatestN greatestD events post) (.inl (some (.int (bP True)))) (MR pre code amountN amountD momentN momentD epsilonN epsilonD firstFacts firstN firstD wishes wants wantN wantD actions needs needTime needOf needHow needN needD changes changeTime changeOf changeHow changeN changeD lastOf lastN lastD steps stepAction startN startD lengthN lengthD rows row tried triedAction triedRows triedRow times unit facts numN numD oldFacts oldN oldD point judged fault faultPoint toldFacts toldN toldD (nN (durP numN lastOf lastN (2 * triedAction s + which)) (durP numD lastOf lastD (2 * triedAction s + which))) (nD (durP numN lastOf lastN (2 * triedAction s + which)) (durP numD lastOf lastD (2 * triedAction s + which))) pointN pointD gone now leastN leastD greatestN greatestD events post) := by
  obtain ⟨-, -, -, -, wA, -, -, -, -, -, -, -, -, -, -, -, -, wL, wLN, wLD, -⟩ := id hw
  have c1 := wL (2 * triedAction s + which)
  have c2 := wLN (2 * triedAction s + which)
  have c3 := wLD (2 * triedAction s + which) (by omega) (by omega) h3
  have c4 := wN (lastOf (2 * triedAction s + which))
  have m1 := mul_bd (a := numN (lastOf (2 * triedAction s + which))) (b := lastN (2 * triedAction s + which)) (A := 1000000000) (B := 100000) (by omega) (by omega)
  have m2 := mul_ps (a := numD (lastOf (2 * triedAction s + which))) (b := lastD (2 * triedAction s + which)) (A := 1000000000) (B := 1000) (by omega) (by omega)
  refine Cg.of (Nat.le_of_ble_eq_true rfl) ?_
  change Rg _ _ _ _ 0 [(0, .ref 168), (1, .int (iI s)), (2, .int (iI which))] [] _ _ _
  refine Rg.step 1 F_Mo_duration_0 rfl (fun _ => rfl) ?_
  refine Rg.step 2 F_Mo_duration_1 rfl (fun _ => rfl) ?_
  refine Rg.getf 5 F_Mo_duration_2 rfl rF_26_111 (gM hp) rfl ?_
  refine Rg.step 6 F_Mo_duration_5 rfl (fun _ => rfl) ?_
  refine Rg.ild 7 F_Mo_duration_6 rfl (gR_triedAction hp) (by omega) (by decide) ?_
  refine Rg.mulI 8 F_Mo_duration_7 rfl ?_
  refine Rg.step 9 F_Mo_duration_8 rfl (fun _ => rfl) ?_
  refine Rg.addI 10 F_Mo_duration_9 rfl ?_
  refine Rg.step 11 F_Mo_duration_10 rfl (fun _ => rfl) ?_
  refine Rg.step 12 F_Mo_duration_11 rfl (fun _ => rfl) ?_
  refine Rg.getf 15 F_Mo_duration_12 rfl rF_26_84 (gM hp) rfl ?_
  refine Rg.step 16 F_Mo_duration_15 rfl (fun _ => rfl) ?_
  refine Rg.ild 17 F_Mo_duration_16 rfl (gR_lastOf hp) (by omega) (by decide) ?_
  refine Rg.bip 19 F_Mo_duration_17 rfl rfl ?_
  refine Rg.icneI 24 22 F_Mo_duration_19 rfl rfl (by omega) (by omega) (fun _ => ?_) (fun h19 => by omega)
  refine Rg.step 25 F_Mo_duration_24 rfl (fun _ => rfl) ?_
  refine Rg.getf 28 F_Mo_duration_25 rfl rF_26_84 (gM hp) rfl ?_
  refine Rg.step 29 F_Mo_duration_28 rfl (fun _ => rfl) ?_
  refine Rg.ild 30 F_Mo_duration_29 rfl (gR_lastOf hp) (by omega) (by decide) ?_
  refine Rg.step 31 F_Mo_duration_30 rfl (fun _ => rfl) ?_
  refine Rg.icneI 53 34 F_Mo_duration_31 rfl rfl (by omega) (by omega) (fun h31 => ?_) (fun h31 => ?_)
  · refine Rg.step 54 F_Mo_duration_53 rfl (fun _ => rfl) ?_
    refine Rg.step 55 F_Mo_duration_54 rfl (fun _ => rfl) ?_
    refine Rg.getf 58 F_Mo_duration_55 rfl rF_26_123 (gM hp) rfl ?_
    refine Rg.step 59 F_Mo_duration_58 rfl (fun _ => rfl) ?_
    refine Rg.getf 62 F_Mo_duration_59 rfl rF_26_84 (gM hp) rfl ?_
    refine Rg.step 63 F_Mo_duration_62 rfl (fun _ => rfl) ?_
    refine Rg.ild 64 F_Mo_duration_63 rfl (gR_lastOf hp) (by omega) (by decide) ?_
    refine Rg.lld 65 F_Mo_duration_64 rfl (gR_numN hp) (by omega) (by decide) ?_
    refine Rg.step 66 F_Mo_duration_65 rfl (fun _ => rfl) ?_
    refine Rg.getf 69 F_Mo_duration_66 rfl rF_26_87 (gM hp) rfl ?_
    refine Rg.step 70 F_Mo_duration_69 rfl (fun _ => rfl) ?_
    refine Rg.lld 71 F_Mo_duration_70 rfl (gR_lastN hp) (by omega) (by decide) ?_
    refine Rg.mulL 72 F_Mo_duration_71 rfl ?_
    refine Rg.step 73 F_Mo_duration_72 rfl (fun _ => rfl) ?_
    refine Rg.getf 76 F_Mo_duration_73 rfl rF_26_126 (gM hp) rfl ?_
    refine Rg.step 77 F_Mo_duration_76 rfl (fun _ => rfl) ?_
    refine Rg.getf 80 F_Mo_duration_77 rfl rF_26_84 (gM hp) rfl ?_
    refine Rg.step 81 F_Mo_duration_80 rfl (fun _ => rfl) ?_
    refine Rg.ild 82 F_Mo_duration_81 rfl (gR_lastOf hp) (by omega) (by decide) ?_
    refine Rg.lld 83 F_Mo_duration_82 rfl (gR_numD hp) (by omega) (by decide) ?_
    refine Rg.step 84 F_Mo_duration_83 rfl (fun _ => rfl) ?_
    refine Rg.getf 87 F_Mo_duration_84 rfl rF_26_90 (gM hp) rfl ?_
    refine Rg.step 88 F_Mo_duration_87 rfl (fun _ => rfl) ?_
    refine Rg.lld 89 F_Mo_duration_88 rfl (gR_lastD hp) (by omega) (by decide) ?_
    refine Rg.mulL 90 F_Mo_duration_89 rfl ?_
    refine Rg.call 93 F_Mo_duration_90 rfl (one_V rM_26_208 (by decide) (by simp) rfl rfl (gM hp) rfl) (Nat.le_of_ble_eq_true rfl) (c_Mo_out2 (n := (durP numN lastOf lastN (2 * triedAction s + which))) (q := (durP numD lastOf lastD (2 * triedAction s + which))) hp (by unfold durP; rw [if_neg h31]) (by unfold durP; rw [if_neg h31]) (by unfold durP; rw [if_neg h31]; omega) (by unfold durP; rw [if_neg h31]; omega) (by unfold durP; rw [if_neg h31]; omega)) ?_
    refine Rg.step 94 F_Mo_duration_93 rfl (fun _ => rfl) ?_
    exact Rg.ret1 F_Mo_duration_94 rfl trivial rfl
  · refine Rg.step 35 F_Mo_duration_34 rfl (fun _ => rfl) ?_
    refine Rg.step 36 F_Mo_duration_35 rfl (fun _ => rfl) ?_
    refine Rg.getf 39 F_Mo_duration_36 rfl rF_26_87 (gM hp) rfl ?_
    refine Rg.step 40 F_Mo_duration_39 rfl (fun _ => rfl) ?_
    refine Rg.lld 41 F_Mo_duration_40 rfl (gR_lastN hp) (by omega) (by decide) ?_
    refine Rg.step 42 F_Mo_duration_41 rfl (fun _ => rfl) ?_
    refine Rg.getf 45 F_Mo_duration_42 rfl rF_26_90 (gM hp) rfl ?_
    refine Rg.step 46 F_Mo_duration_45 rfl (fun _ => rfl) ?_
    refine Rg.lld 47 F_Mo_duration_46 rfl (gR_lastD hp) (by omega) (by decide) ?_
    refine Rg.call 50 F_Mo_duration_47 rfl (one_V rM_26_208 (by decide) (by simp) rfl rfl (gM hp) rfl) (Nat.le_of_ble_eq_true rfl) (c_Mo_out2 (n := (durP numN lastOf lastN (2 * triedAction s + which))) (q := (durP numD lastOf lastD (2 * triedAction s + which))) hp (by unfold durP; rw [if_pos h31]) (by unfold durP; rw [if_pos h31]) (by unfold durP; rw [if_pos h31]; omega) (by unfold durP; rw [if_pos h31]; omega) (by unfold durP; rw [if_pos h31]; omega)) ?_
    refine Rg.step 93 F_Mo_duration_50 rfl (fun _ => rfl) ?_
    refine Rg.step 94 F_Mo_duration_93 rfl (fun _ => rfl) ?_
    exact Rg.ret1 F_Mo_duration_94 rfl trivial rfl
theorem c_Mo_changed_f {d : Nat}  (hp : pre.length = 168) (hw : WT epsilonN epsilonD wishes wants wantN wantD actions needs needTime needOf needHow needN needD changes changeTime changeOf changeHow changeN changeD lastOf lastN lastD firstN firstD) {k : Int} (h1 : 0 ≤ k ∧ k < 72) (h9 : 9 < changeHow k) : Cg false (d + 3) m_Mo_changed [.ref 168, .int (iI k)] (MR pre code amountN amountD momentN momentD epsilonN epsilonD firstFacts firstN firstD wishes wants wantN wantD actions needs needTime needOf needHow needN needD changes changeTime changeOf changeHow changeN changeD lastOf lastN lastD steps stepAction startN startD lengthN lengthD rows row tried triedAction triedRows triedRow times unit facts numN numD oldFacts oldN oldD point judged fault faultPoint toldFacts toldN toldD outN outD pointN pointD gone now leastN leastD greatestN greatestD events post) (.inl none) (MR pre code amountN amountD momentN momentD epsilonN epsilonD firstFacts firstN firstD wishes wants wantN wantD actions needs needTime needOf needHow needN needD changes changeTime changeOf changeHow changeN changeD lastOf lastN lastD steps stepAction startN startD lengthN lengthD rows row tried triedAction triedRows triedRow times unit (up1 facts (changeOf k) (changeHow k = 11)) numN numD oldFacts oldN oldD point judged fault faultPoint toldFacts toldN toldD outN outD pointN pointD gone now leastN leastD greatestN greatestD events post) := by
  obtain ⟨-, -, -, -, -, -, -, -, -, -, -, -, -, wcO, wcH, -, -, -, -, -, -⟩ := id hw
  have c1 := wcO k
  have c2 := wcH k
  refine Cg.of (Nat.le_of_ble_eq_true rfl) ?_
  change Rg _ _ _ _ 0 [(0, .ref 168), (1, .int (iI k))] [] _ _ _
  refine Rg.step 1 F_Mo_changed_0 rfl (fun _ => rfl) ?_
  refine Rg.getf 4 F_Mo_changed_1 rfl rF_26_72 (gM hp) rfl ?_
  refine Rg.step 5 F_Mo_changed_4 rfl (fun _ => rfl) ?_
  refine Rg.ild 6 F_Mo_changed_5 rfl (gR_changeOf hp) (by omega) (by decide) ?_
  refine Rg.step 7 F_Mo_changed_6 rfl (fun _ => rfl) ?_
  refine Rg.step 8 F_Mo_changed_7 rfl (fun _ => rfl) ?_
  refine Rg.getf 11 F_Mo_changed_8 rfl rF_26_75 (gM hp) rfl ?_
  refine Rg.step 12 F_Mo_changed_11 rfl (fun _ => rfl) ?_
  refine Rg.ild 13 F_Mo_changed_12 rfl (gR_changeHow hp) (by omega) (by decide) ?_
  refine Rg.step 14 F_Mo_changed_13 rfl (fun _ => rfl) ?_
  refine Rg.step 15 F_Mo_changed_14 rfl (fun _ => rfl) ?_
  refine Rg.bip 17 F_Mo_changed_15 rfl rfl ?_
  refine Rg.icleI 38 20 F_Mo_changed_17 rfl rfl (by omega) (by omega) (fun h17 => by omega) (fun _ => ?_)
  refine Rg.step 21 F_Mo_changed_20 rfl (fun _ => rfl) ?_
  refine Rg.getf 24 F_Mo_changed_21 rfl rF_26_120 (gM hp) rfl ?_
  refine Rg.step 25 F_Mo_changed_24 rfl (fun _ => rfl) ?_
  refine Rg.step 26 F_Mo_changed_25 rfl (fun _ => rfl) ?_
  refine Rg.bip 28 F_Mo_changed_26 rfl rfl ?_
  refine Rg.icneI 35 31 F_Mo_changed_28 rfl rfl (by omega) (by omega) (fun h28 => ?_) (fun h28 => ?_)
  · refine Rg.cP0 (B := (changeHow k = 11)) 36 F_Mo_changed_35 rfl (by omega) ?_
    refine Rg.zst 37 F_Mo_changed_36 rfl (gR_facts hp) (by decide) (sR_facts hp) (by omega) (by decide) ?_
    exact Rg.retV F_Mo_changed_37 rfl rfl
  · refine Rg.cP1 (B := (changeHow k = 11)) 32 F_Mo_changed_31 rfl (by omega) ?_
    refine Rg.step 36 F_Mo_changed_32 rfl (fun _ => rfl) ?_
    refine Rg.zst 37 F_Mo_changed_36 rfl (gR_facts hp) (by decide) (sR_facts hp) (by omega) (by decide) ?_
    exact Rg.retV F_Mo_changed_37 rfl rfl
theorem c_Mo_changed_n {d : Nat}  (hp : pre.length = 168) (hw : WT epsilonN epsilonD wishes wants wantN wantD actions needs needTime needOf needHow needN needD changes changeTime changeOf changeHow changeN changeD lastOf lastN lastD firstN firstD) (wN : WN numN numD) {k : Int} (h1 : 0 ≤ k ∧ k < 72) (h2 : 0 < changeD k) (h9 : ¬ 9 < changeHow k) : Cg false (d + 3) m_Mo_changed [.ref 168, .int (iI k)] (MR pre code amountN amountD momentN momentD epsilonN epsilonD firstFacts firstN firstD wishes wants wantN wantD actions needs needTime needOf needHow needN needD changes changeTime changeOf changeHow changeN changeD lastOf lastN lastD steps stepAction startN startD lengthN lengthD rows row tried triedAction triedRows triedRow times unit facts numN numD oldFacts oldN oldD point judged fault faultPoint toldFacts toldN toldD outN outD pointN pointD gone now leastN leastD greatestN greatestD events post) (.inl none) (MR pre code amountN amountD momentN momentD epsilonN epsilonD firstFacts firstN firstD wishes wants wantN wantD actions needs needTime needOf needHow needN needD changes changeTime changeOf changeHow changeN changeD lastOf lastN lastD steps stepAction startN startD lengthN lengthD rows row tried triedAction triedRows triedRow times unit facts (up1 numN (changeOf k) (altN changeOf changeHow changeN changeD k numN numD)) (up1 numD (changeOf k) (altD changeOf changeHow changeN changeD k numN numD)) oldFacts oldN oldD point judged fault faultPoint toldFacts toldN toldD (altN changeOf changeHow changeN changeD k numN numD) (altD changeOf changeHow changeN changeD k numN numD) pointN pointD gone now leastN leastD greatestN greatestD events post) := by
  obtain ⟨-, -, -, -, -, -, -, -, -, -, -, -, -, wcO, wcH, wcN, -, -, -, -, -⟩ := id hw
  have c1 := wcO k
  have c2 := wcH k
  have c3 := wcN k
  have c4 := wN (changeOf k)
  have m1 := mul_bd (a := numN (changeOf k)) (b := changeN k) (A := 1000000000) (B := 100000) (by omega) (by omega)
  have m2 := mul_bd (a := numN (changeOf k)) (b := changeD k) (A := 1000000000) (B := 1000) (by omega) (by omega)
  have m3 := mul_bd (a := changeN k) (b := numD (changeOf k)) (A := 100000) (B := 1000000000) (by omega) (by omega)
  have m4 := mul_ps (a := numD (changeOf k)) (b := changeD k) (A := 1000000000) (B := 1000) (by omega) (by omega)
  have r1 : -4611686018427387904 < (rawN (changeHow k) (numN (changeOf k)) (numD (changeOf k)) (changeN k) (changeD k)) ∧ (rawN (changeHow k) (numN (changeOf k)) (numD (changeOf k)) (changeN k) (changeD k)) < 4611686018427387904 := by
    have m5 : -changeN k * numD (changeOf k) = -(changeN k * numD (changeOf k)) := Int.neg_mul _ _
    unfold rawN
    split
    · omega
    · split
      · omega
      · split <;> omega
  have r0 : 0 < (rawD (changeHow k) (numD (changeOf k)) (changeD k)) ∧ (rawD (changeHow k) (numD (changeOf k)) (changeD k)) ≤ 1000000000000 := by
    unfold rawD
    split <;> omega
  have r2 : -4611686018427387904 < (rawD (changeHow k) (numD (changeOf k)) (changeD k)) ∧ (rawD (changeHow k) (numD (changeOf k)) (changeD k)) < 4611686018427387904 := by omega
  have r3 := r0.1
  refine Cg.of (Nat.le_of_ble_eq_true rfl) ?_
  change Rg _ _ _ _ 0 [(0, .ref 168), (1, .int (iI k))] [] _ _ _
  refine Rg.step 1 F_Mo_changed_0 rfl (fun _ => rfl) ?_
  refine Rg.getf 4 F_Mo_changed_1 rfl rF_26_72 (gM hp) rfl ?_
  refine Rg.step 5 F_Mo_changed_4 rfl (fun _ => rfl) ?_
  refine Rg.ild 6 F_Mo_changed_5 rfl (gR_changeOf hp) (by omega) (by decide) ?_
  refine Rg.step 7 F_Mo_changed_6 rfl (fun _ => rfl) ?_
  refine Rg.step 8 F_Mo_changed_7 rfl (fun _ => rfl) ?_
  refine Rg.getf 11 F_Mo_changed_8 rfl rF_26_75 (gM hp) rfl ?_
  refine Rg.step 12 F_Mo_changed_11 rfl (fun _ => rfl) ?_
  refine Rg.ild 13 F_Mo_changed_12 rfl (gR_changeHow hp) (by omega) (by decide) ?_
  refine Rg.step 14 F_Mo_changed_13 rfl (fun _ => rfl) ?_
  refine Rg.step 15 F_Mo_changed_14 rfl (fun _ => rfl) ?_
  refine Rg.bip 17 F_Mo_changed_15 rfl rfl ?_
  refine Rg.icleI 38 20 F_Mo_changed_17 rfl rfl (by omega) (by omega) (fun _ => ?_) (fun h17 => by omega)
  refine Rg.step 39 F_Mo_changed_38 rfl (fun _ => rfl) ?_
  refine Rg.getf 42 F_Mo_changed_39 rfl rF_26_78 (gM hp) rfl ?_
  refine Rg.step 43 F_Mo_changed_42 rfl (fun _ => rfl) ?_
  refine Rg.lld 44 F_Mo_changed_43 rfl (gR_changeN hp) (by omega) (by decide) ?_
  refine Rg.step 46 F_Mo_changed_44 rfl (fun _ => rfl) ?_
  refine Rg.step 47 F_Mo_changed_46 rfl (fun _ => rfl) ?_
  refine Rg.getf 50 F_Mo_changed_47 rfl rF_26_81 (gM hp) rfl ?_
  refine Rg.step 51 F_Mo_changed_50 rfl (fun _ => rfl) ?_
  refine Rg.lld 52 F_Mo_changed_51 rfl (gR_changeD hp) (by omega) (by decide) ?_
  refine Rg.step 54 F_Mo_changed_52 rfl (fun _ => rfl) ?_
  refine Rg.step 55 F_Mo_changed_54 rfl (fun _ => rfl) ?_
  refine Rg.ifneI 69 58 F_Mo_changed_55 rfl rfl (by omega) (fun h55 => ?_) (fun h55 => ?_)
  · refine Rg.step 70 F_Mo_changed_69 rfl (fun _ => rfl) ?_
    refine Rg.step 71 F_Mo_changed_70 rfl (fun _ => rfl) ?_
    refine Rg.icneI 99 74 F_Mo_changed_71 rfl rfl (by omega) (by omega) (fun h71 => ?_) (fun h71 => ?_)
    · refine Rg.step 100 F_Mo_changed_99 rfl (fun _ => rfl) ?_
      refine Rg.step 101 F_Mo_changed_100 rfl (fun _ => rfl) ?_
      refine Rg.getf 104 F_Mo_changed_101 rfl rF_26_123 (gM hp) rfl ?_
      refine Rg.step 105 F_Mo_changed_104 rfl (fun _ => rfl) ?_
      refine Rg.lld 106 F_Mo_changed_105 rfl (gR_numN hp) (by omega) (by decide) ?_
      refine Rg.step 108 F_Mo_changed_106 rfl (fun _ => rfl) ?_
      refine Rg.mulL 109 F_Mo_changed_108 rfl ?_
      refine Rg.step 110 F_Mo_changed_109 rfl (fun _ => rfl) ?_
      refine Rg.step 111 F_Mo_changed_110 rfl (fun _ => rfl) ?_
      refine Rg.icneI 119 114 F_Mo_changed_111 rfl rfl (by omega) (by omega) (fun h111 => ?_) (fun h111 => ?_)
      · refine Rg.step 121 F_Mo_changed_119 rfl (fun _ => rfl) ?_
        refine Rg.negL 122 F_Mo_changed_121 rfl ?_
        refine Rg.step 123 F_Mo_changed_122 rfl (fun _ => rfl) ?_
        refine Rg.getf 126 F_Mo_changed_123 rfl rF_26_126 (gM hp) rfl ?_
        refine Rg.step 127 F_Mo_changed_126 rfl (fun _ => rfl) ?_
        refine Rg.lld 128 F_Mo_changed_127 rfl (gR_numD hp) (by omega) (by decide) ?_
        refine Rg.mulL 129 F_Mo_changed_128 rfl ?_
        refine Rg.addL 130 F_Mo_changed_129 rfl ?_
        refine Rg.step 131 F_Mo_changed_130 rfl (fun _ => rfl) ?_
        refine Rg.getf 134 F_Mo_changed_131 rfl rF_26_126 (gM hp) rfl ?_
        refine Rg.step 135 F_Mo_changed_134 rfl (fun _ => rfl) ?_
        refine Rg.lld 136 F_Mo_changed_135 rfl (gR_numD hp) (by omega) (by decide) ?_
        refine Rg.step 138 F_Mo_changed_136 rfl (fun _ => rfl) ?_
        refine Rg.mulL 139 F_Mo_changed_138 rfl ?_
        refine Rg.call 142 F_Mo_changed_139 rfl (one_V rM_26_208 (by decide) (by simp) rfl rfl (gM hp) rfl) (Nat.le_of_ble_eq_true rfl) (c_Mo_out2 (n := (rawN (changeHow k) (numN (changeOf k)) (numD (changeOf k)) (changeN k) (changeD k))) (q := (rawD (changeHow k) (numD (changeOf k)) (changeD k))) hp (by unfold rawN; rw [if_neg h55, if_neg h71, if_neg h111]) (by unfold rawD; rw [if_neg h55]) r1 r2 r3) ?_
        refine Rg.step 143 F_Mo_changed_142 rfl (fun _ => rfl) ?_
        refine Rg.getf 146 F_Mo_changed_143 rfl rF_26_123 (gM hp) rfl ?_
        refine Rg.step 147 F_Mo_changed_146 rfl (fun _ => rfl) ?_
        refine Rg.step 148 F_Mo_changed_147 rfl (fun _ => rfl) ?_
        refine Rg.getf 151 F_Mo_changed_148 rfl rF_26_189 (gM hp) rfl ?_
        refine Rg.lst 152 F_Mo_changed_151 rfl (gR_numN hp) (by decide) (sR_numN hp) (by omega) (by decide) ?_
        refine Rg.step 153 F_Mo_changed_152 rfl (fun _ => rfl) ?_
        refine Rg.getf 156 F_Mo_changed_153 rfl rF_26_126 (gM hp) rfl ?_
        refine Rg.step 157 F_Mo_changed_156 rfl (fun _ => rfl) ?_
        refine Rg.step 158 F_Mo_changed_157 rfl (fun _ => rfl) ?_
        refine Rg.getf 161 F_Mo_changed_158 rfl rF_26_192 (gM hp) rfl ?_
        refine Rg.lst 162 F_Mo_changed_161 rfl (gR_numD hp) (by decide) (sR_numD hp) (by omega) (by decide) ?_
        exact Rg.retV F_Mo_changed_162 rfl rfl
      · refine Rg.step 116 F_Mo_changed_114 rfl (fun _ => rfl) ?_
        refine Rg.step 122 F_Mo_changed_116 rfl (fun _ => rfl) ?_
        refine Rg.step 123 F_Mo_changed_122 rfl (fun _ => rfl) ?_
        refine Rg.getf 126 F_Mo_changed_123 rfl rF_26_126 (gM hp) rfl ?_
        refine Rg.step 127 F_Mo_changed_126 rfl (fun _ => rfl) ?_
        refine Rg.lld 128 F_Mo_changed_127 rfl (gR_numD hp) (by omega) (by decide) ?_
        refine Rg.mulL 129 F_Mo_changed_128 rfl ?_
        refine Rg.addL 130 F_Mo_changed_129 rfl ?_
        refine Rg.step 131 F_Mo_changed_130 rfl (fun _ => rfl) ?_
        refine Rg.getf 134 F_Mo_changed_131 rfl rF_26_126 (gM hp) rfl ?_
        refine Rg.step 135 F_Mo_changed_134 rfl (fun _ => rfl) ?_
        refine Rg.lld 136 F_Mo_changed_135 rfl (gR_numD hp) (by omega) (by decide) ?_
        refine Rg.step 138 F_Mo_changed_136 rfl (fun _ => rfl) ?_
        refine Rg.mulL 139 F_Mo_changed_138 rfl ?_
        refine Rg.call 142 F_Mo_changed_139 rfl (one_V rM_26_208 (by decide) (by simp) rfl rfl (gM hp) rfl) (Nat.le_of_ble_eq_true rfl) (c_Mo_out2 (n := (rawN (changeHow k) (numN (changeOf k)) (numD (changeOf k)) (changeN k) (changeD k))) (q := (rawD (changeHow k) (numD (changeOf k)) (changeD k))) hp (by unfold rawN; rw [if_neg h55, if_neg h71, if_pos h111]) (by unfold rawD; rw [if_neg h55]) r1 r2 r3) ?_
        refine Rg.step 143 F_Mo_changed_142 rfl (fun _ => rfl) ?_
        refine Rg.getf 146 F_Mo_changed_143 rfl rF_26_123 (gM hp) rfl ?_
        refine Rg.step 147 F_Mo_changed_146 rfl (fun _ => rfl) ?_
        refine Rg.step 148 F_Mo_changed_147 rfl (fun _ => rfl) ?_
        refine Rg.getf 151 F_Mo_changed_148 rfl rF_26_189 (gM hp) rfl ?_
        refine Rg.lst 152 F_Mo_changed_151 rfl (gR_numN hp) (by decide) (sR_numN hp) (by omega) (by decide) ?_
        refine Rg.step 153 F_Mo_changed_152 rfl (fun _ => rfl) ?_
        refine Rg.getf 156 F_Mo_changed_153 rfl rF_26_126 (gM hp) rfl ?_
        refine Rg.step 157 F_Mo_changed_156 rfl (fun _ => rfl) ?_
        refine Rg.step 158 F_Mo_changed_157 rfl (fun _ => rfl) ?_
        refine Rg.getf 161 F_Mo_changed_158 rfl rF_26_192 (gM hp) rfl ?_
        refine Rg.lst 162 F_Mo_changed_161 rfl (gR_numD hp) (by decide) (sR_numD hp) (by omega) (by decide) ?_
        exact Rg.retV F_Mo_changed_162 rfl rfl
    · refine Rg.step 75 F_Mo_changed_74 rfl (fun _ => rfl) ?_
      refine Rg.step 76 F_Mo_changed_75 rfl (fun _ => rfl) ?_
      refine Rg.getf 79 F_Mo_changed_76 rfl rF_26_123 (gM hp) rfl ?_
      refine Rg.step 80 F_Mo_changed_79 rfl (fun _ => rfl) ?_
      refine Rg.lld 81 F_Mo_changed_80 rfl (gR_numN hp) (by omega) (by decide) ?_
      refine Rg.step 83 F_Mo_changed_81 rfl (fun _ => rfl) ?_
      refine Rg.mulL 84 F_Mo_changed_83 rfl ?_
      refine Rg.step 85 F_Mo_changed_84 rfl (fun _ => rfl) ?_
      refine Rg.getf 88 F_Mo_changed_85 rfl rF_26_126 (gM hp) rfl ?_
      refine Rg.step 89 F_Mo_changed_88 rfl (fun _ => rfl) ?_
      refine Rg.lld 90 F_Mo_changed_89 rfl (gR_numD hp) (by omega) (by decide) ?_
      refine Rg.step 92 F_Mo_changed_90 rfl (fun _ => rfl) ?_
      refine Rg.mulL 93 F_Mo_changed_92 rfl ?_
      refine Rg.call 96 F_Mo_changed_93 rfl (one_V rM_26_208 (by decide) (by simp) rfl rfl (gM hp) rfl) (Nat.le_of_ble_eq_true rfl) (c_Mo_out2 (n := (rawN (changeHow k) (numN (changeOf k)) (numD (changeOf k)) (changeN k) (changeD k))) (q := (rawD (changeHow k) (numD (changeOf k)) (changeD k))) hp (by unfold rawN; rw [if_neg h55, if_pos h71]) (by unfold rawD; rw [if_neg h55]) r1 r2 r3) ?_
      refine Rg.step 142 F_Mo_changed_96 rfl (fun _ => rfl) ?_
      refine Rg.step 143 F_Mo_changed_142 rfl (fun _ => rfl) ?_
      refine Rg.getf 146 F_Mo_changed_143 rfl rF_26_123 (gM hp) rfl ?_
      refine Rg.step 147 F_Mo_changed_146 rfl (fun _ => rfl) ?_
      refine Rg.step 148 F_Mo_changed_147 rfl (fun _ => rfl) ?_
      refine Rg.getf 151 F_Mo_changed_148 rfl rF_26_189 (gM hp) rfl ?_
      refine Rg.lst 152 F_Mo_changed_151 rfl (gR_numN hp) (by decide) (sR_numN hp) (by omega) (by decide) ?_
      refine Rg.step 153 F_Mo_changed_152 rfl (fun _ => rfl) ?_
      refine Rg.getf 156 F_Mo_changed_153 rfl rF_26_126 (gM hp) rfl ?_
      refine Rg.step 157 F_Mo_changed_156 rfl (fun _ => rfl) ?_
      refine Rg.step 158 F_Mo_changed_157 rfl (fun _ => rfl) ?_
      refine Rg.getf 161 F_Mo_changed_158 rfl rF_26_192 (gM hp) rfl ?_
      refine Rg.lst 162 F_Mo_changed_161 rfl (gR_numD hp) (by decide) (sR_numD hp) (by omega) (by decide) ?_
      exact Rg.retV F_Mo_changed_162 rfl rfl
  · refine Rg.step 59 F_Mo_changed_58 rfl (fun _ => rfl) ?_
    refine Rg.step 61 F_Mo_changed_59 rfl (fun _ => rfl) ?_
    refine Rg.step 63 F_Mo_changed_61 rfl (fun _ => rfl) ?_
    refine Rg.call 66 F_Mo_changed_63 rfl (one_V rM_26_208 (by decide) (by simp) rfl rfl (gM hp) rfl) (Nat.le_of_ble_eq_true rfl) (c_Mo_out2 (n := (rawN (changeHow k) (numN (changeOf k)) (numD (changeOf k)) (changeN k) (changeD k))) (q := (rawD (changeHow k) (numD (changeOf k)) (changeD k))) hp (by unfold rawN; rw [if_pos h55]) (by unfold rawD; rw [if_pos h55]) r1 r2 r3) ?_
    refine Rg.step 142 F_Mo_changed_66 rfl (fun _ => rfl) ?_
    refine Rg.step 143 F_Mo_changed_142 rfl (fun _ => rfl) ?_
    refine Rg.getf 146 F_Mo_changed_143 rfl rF_26_123 (gM hp) rfl ?_
    refine Rg.step 147 F_Mo_changed_146 rfl (fun _ => rfl) ?_
    refine Rg.step 148 F_Mo_changed_147 rfl (fun _ => rfl) ?_
    refine Rg.getf 151 F_Mo_changed_148 rfl rF_26_189 (gM hp) rfl ?_
    refine Rg.lst 152 F_Mo_changed_151 rfl (gR_numN hp) (by decide) (sR_numN hp) (by omega) (by decide) ?_
    refine Rg.step 153 F_Mo_changed_152 rfl (fun _ => rfl) ?_
    refine Rg.getf 156 F_Mo_changed_153 rfl rF_26_126 (gM hp) rfl ?_
    refine Rg.step 157 F_Mo_changed_156 rfl (fun _ => rfl) ?_
    refine Rg.step 158 F_Mo_changed_157 rfl (fun _ => rfl) ?_
    refine Rg.getf 161 F_Mo_changed_158 rfl rF_26_192 (gM hp) rfl ?_
    refine Rg.lst 162 F_Mo_changed_161 rfl (gR_numD hp) (by decide) (sR_numD hp) (by omega) (by decide) ?_
    exact Rg.retV F_Mo_changed_162 rfl rfl
theorem allch_some {d n0 : Nat} (hp : pre.length = 168) (hw : WT epsilonN epsilonD wishes wants wantN wantD actions needs needTime needOf needHow needN needD changes changeTime changeOf changeHow changeN changeD lastOf lastN lastD firstN firstD) {p : Int} (h1 : 0 ≤ p ∧ p < 24) (ha : 0 ≤ triedAction (p / 2) ∧ triedAction (p / 2) < actions) {F1 : Int → Prop} {N1 D1 : Int → Int} : ∀ (n : Nat) (k : Int) (F : Int → Prop) (N D : Int → Int) (x y : Int), k + n = 6 * (triedAction (p / 2)) + changes (triedAction (p / 2)) → 6 * (triedAction (p / 2)) ≤ k → WN N D → chAll changeTime changeOf changeHow changeN changeD (tmo p) n k (F, N, D) = some (F1, N1, D1) → WN N1 D1 ∧ ∃ x1 y1, Rg false (d + 4) m_Mo_allChanged n0 14 [(3, .int (iI k)), (2, .int (iI (triedAction (p / 2)))), (0, .ref 168), (1, .int (iI p))] [] (MR pre code amountN amountD momentN momentD epsilonN epsilonD firstFacts firstN firstD wishes wants wantN wantD actions needs needTime needOf needHow needN needD changes changeTime changeOf changeHow changeN changeD lastOf lastN lastD steps stepAction startN startD lengthN lengthD rows row tried triedAction triedRows triedRow times unit F N D oldFacts oldN oldD point judged fault faultPoint toldFacts toldN toldD x y pointN pointD gone now leastN leastD greatestN greatestD events post) (.inl (some (.int (bP True)))) (MR pre code amountN amountD momentN momentD epsilonN epsilonD firstFacts firstN firstD wishes wants wantN wantD actions needs needTime needOf needHow needN needD changes changeTime changeOf changeHow changeN changeD lastOf lastN lastD steps stepAction startN startD lengthN lengthD rows row tried triedAction triedRows triedRow times unit F1 N1 D1 oldFacts oldN oldD point judged fault faultPoint toldFacts toldN toldD x1 y1 pointN pointD gone now leastN leastD greatestN greatestD events post) := by
  intro n
  obtain ⟨-, -, -, -, wA, -, -, -, -, -, -, wc, wcT, wcO, wcH, wcN, wcD, -, -, -, -⟩ := id hw
  have c0 := wc (triedAction (p / 2))
  have c2 := tmo_b p
  induction n with
  | zero =>
    intro k F N D x y hk hk2 wN hc
    cases hc
    refine ⟨wN, x, y, ?_⟩
    refine Rg.step 15 F_Mo_allChanged_14 rfl (fun _ => rfl) ?_
    refine Rg.bip 17 F_Mo_allChanged_15 rfl rfl ?_
    refine Rg.step 18 F_Mo_allChanged_17 rfl (fun _ => rfl) ?_
    refine Rg.mulI 19 F_Mo_allChanged_18 rfl ?_
    refine Rg.step 20 F_Mo_allChanged_19 rfl (fun _ => rfl) ?_
    refine Rg.getf 23 F_Mo_allChanged_20 rfl rF_26_66 (gM hp) rfl ?_
    refine Rg.step 24 F_Mo_allChanged_23 rfl (fun _ => rfl) ?_
    refine Rg.ild 25 F_Mo_allChanged_24 rfl (gR_changes hp) (by omega) (by decide) ?_
    refine Rg.addI 26 F_Mo_allChanged_25 rfl ?_
    refine Rg.icgeI 94 29 F_Mo_allChanged_26 rfl rfl (by omega) (by omega) (fun _ => ?_) (fun h26 => by omega)
    refine Rg.step 95 F_Mo_allChanged_94 rfl (fun _ => rfl) ?_
    exact Rg.ret1 F_Mo_allChanged_95 rfl trivial rfl
  | succ n ih =>
    intro k F N D x y hk hk2 wN hc
    have d1 := wcT k
    have d2 := wcH k
    by_cases ht : changeTime k = tmo p
    · by_cases h9 : 9 < changeHow k
      · rw [chAll_fact ht h9] at hc
        obtain ⟨w1, x1, y1, hg⟩ := ih (k + 1) _ N D x y (by omega) (by omega) wN hc
        refine ⟨w1, x1, y1, ?_⟩
        refine Rg.step 15 F_Mo_allChanged_14 rfl (fun _ => rfl) ?_
        refine Rg.bip 17 F_Mo_allChanged_15 rfl rfl ?_
        refine Rg.step 18 F_Mo_allChanged_17 rfl (fun _ => rfl) ?_
        refine Rg.mulI 19 F_Mo_allChanged_18 rfl ?_
        refine Rg.step 20 F_Mo_allChanged_19 rfl (fun _ => rfl) ?_
        refine Rg.getf 23 F_Mo_allChanged_20 rfl rF_26_66 (gM hp) rfl ?_
        refine Rg.step 24 F_Mo_allChanged_23 rfl (fun _ => rfl) ?_
        refine Rg.ild 25 F_Mo_allChanged_24 rfl (gR_changes hp) (by omega) (by decide) ?_
        refine Rg.addI 26 F_Mo_allChanged_25 rfl ?_
        refine Rg.icgeI 94 29 F_Mo_allChanged_26 rfl rfl (by omega) (by omega) (fun h26 => by omega) (fun _ => ?_)
        refine Rg.step 30 F_Mo_allChanged_29 rfl (fun _ => rfl) ?_
        refine Rg.getf 33 F_Mo_allChanged_30 rfl rF_26_69 (gM hp) rfl ?_
        refine Rg.step 34 F_Mo_allChanged_33 rfl (fun _ => rfl) ?_
        refine Rg.ild 35 F_Mo_allChanged_34 rfl (gR_changeTime hp) (by omega) (by decide) ?_
        refine Rg.step 36 F_Mo_allChanged_35 rfl (fun _ => rfl) ?_
        refine Rg.call 39 F_Mo_allChanged_36 rfl (one_S (by decide +kernel) rM_26_248 (by decide) (by simp) rfl rfl) (Nat.le_of_ble_eq_true rfl) (Cg.any (c_Mo_timeOf (by omega))) ?_
        refine Rg.iceqI 45 42 F_Mo_allChanged_39 rfl rfl (by omega) (by omega) (fun _ => ?_) (fun h39 => by omega)
        refine Rg.step 46 F_Mo_allChanged_45 rfl (fun _ => rfl) ?_
        refine Rg.step 47 F_Mo_allChanged_46 rfl (fun _ => rfl) ?_
        refine Rg.call 50 F_Mo_allChanged_47 rfl (one_V rM_26_274 (by decide) (by simp) rfl rfl (gM hp) rfl) (Nat.le_of_ble_eq_true rfl) (c_Mo_changed_f hp hw (by omega) h9) ?_
        refine Rg.step 51 F_Mo_allChanged_50 rfl (fun _ => rfl) ?_
        refine Rg.getf 54 F_Mo_allChanged_51 rfl rF_26_75 (gM hp) rfl ?_
        refine Rg.step 55 F_Mo_allChanged_54 rfl (fun _ => rfl) ?_
        refine Rg.ild 56 F_Mo_allChanged_55 rfl (gR_changeHow hp) (by omega) (by decide) ?_
        refine Rg.bip 58 F_Mo_allChanged_56 rfl rfl ?_
        refine Rg.icgeI 88 61 F_Mo_allChanged_58 rfl rfl (by omega) (by omega) (fun _ => ?_) (fun h58 => by omega)
        refine Rg.inc 91 F_Mo_allChanged_88 rfl rfl (by decide) ?_
        refine Rg.step 14 F_Mo_allChanged_91 rfl (fun _ => rfl) ?_
        exact Rg.weak hg (by simp [lput1, lput2, Value.category, fi0, fi1, fi2, fi3] <;> first | rfl | exact ⟨rfl, rfl⟩) (by simp [lput1, lput2, Value.category, fi0, fi1, fi2, fi3] <;> first | rfl | exact ⟨rfl, rfl⟩)
      · have hD := wcD (triedAction (p / 2)) k ha.1 ha.2 hk2 (by omega)
        by_cases hl : longP (altN changeOf changeHow changeN changeD k N D) (altD changeOf changeHow changeN changeD k N D)
        · rw [chAll_bad ht h9 hl] at hc
          cases hc
        · rw [chAll_go ht h9 hl] at hc
          have wD := wN (changeOf k)
          have q3 := wcN k
          have q2 : 0 < altD changeOf changeHow changeN changeD k N D ∧ altD changeOf changeHow changeN changeD k N D < 4611686018427387904 := by
            have m4 := mul_ps (a := D (changeOf k)) (b := changeD k) (A := 1000000000) (B := 1000) (by omega) (by omega)
            have r0 : 0 < rawD (changeHow k) (D (changeOf k)) (changeD k) ∧ rawD (changeHow k) (D (changeOf k)) (changeD k) ≤ 1000000000000 := by
              unfold rawD
              split <;> omega
            have := nD_pos (n := rawN (changeHow k) (N (changeOf k)) (D (changeOf k)) (changeN k) (changeD k)) r0.1
            unfold altD
            omega
          obtain ⟨w1, x1, y1, hg⟩ := ih (k + 1) F _ _ (altN changeOf changeHow changeN changeD k N D) (altD changeOf changeHow changeN changeD k N D) (by omega) (by omega) (WN_up wN q2.1 hl) hc
          refine ⟨w1, x1, y1, ?_⟩
          unfold longP at hl
          refine Rg.step 15 F_Mo_allChanged_14 rfl (fun _ => rfl) ?_
          refine Rg.bip 17 F_Mo_allChanged_15 rfl rfl ?_
          refine Rg.step 18 F_Mo_allChanged_17 rfl (fun _ => rfl) ?_
          refine Rg.mulI 19 F_Mo_allChanged_18 rfl ?_
          refine Rg.step 20 F_Mo_allChanged_19 rfl (fun _ => rfl) ?_
          refine Rg.getf 23 F_Mo_allChanged_20 rfl rF_26_66 (gM hp) rfl ?_
          refine Rg.step 24 F_Mo_allChanged_23 rfl (fun _ => rfl) ?_
          refine Rg.ild 25 F_Mo_allChanged_24 rfl (gR_changes hp) (by omega) (by decide) ?_
          refine Rg.addI 26 F_Mo_allChanged_25 rfl ?_
          refine Rg.icgeI 94 29 F_Mo_allChanged_26 rfl rfl (by omega) (by omega) (fun h26 => by omega) (fun _ => ?_)
          refine Rg.step 30 F_Mo_allChanged_29 rfl (fun _ => rfl) ?_
          refine Rg.getf 33 F_Mo_allChanged_30 rfl rF_26_69 (gM hp) rfl ?_
          refine Rg.step 34 F_Mo_allChanged_33 rfl (fun _ => rfl) ?_
          refine Rg.ild 35 F_Mo_allChanged_34 rfl (gR_changeTime hp) (by omega) (by decide) ?_
          refine Rg.step 36 F_Mo_allChanged_35 rfl (fun _ => rfl) ?_
          refine Rg.call 39 F_Mo_allChanged_36 rfl (one_S (by decide +kernel) rM_26_248 (by decide) (by simp) rfl rfl) (Nat.le_of_ble_eq_true rfl) (Cg.any (c_Mo_timeOf (by omega))) ?_
          refine Rg.iceqI 45 42 F_Mo_allChanged_39 rfl rfl (by omega) (by omega) (fun _ => ?_) (fun h39 => by omega)
          refine Rg.step 46 F_Mo_allChanged_45 rfl (fun _ => rfl) ?_
          refine Rg.step 47 F_Mo_allChanged_46 rfl (fun _ => rfl) ?_
          refine Rg.call 50 F_Mo_allChanged_47 rfl (one_V rM_26_274 (by decide) (by simp) rfl rfl (gM hp) rfl) (Nat.le_of_ble_eq_true rfl) (c_Mo_changed_n hp hw wN (by omega) hD h9) ?_
          refine Rg.step 51 F_Mo_allChanged_50 rfl (fun _ => rfl) ?_
          refine Rg.getf 54 F_Mo_allChanged_51 rfl rF_26_75 (gM hp) rfl ?_
          refine Rg.step 55 F_Mo_allChanged_54 rfl (fun _ => rfl) ?_
          refine Rg.ild 56 F_Mo_allChanged_55 rfl (gR_changeHow hp) (by omega) (by decide) ?_
          refine Rg.bip 58 F_Mo_allChanged_56 rfl rfl ?_
          refine Rg.icgeI 88 61 F_Mo_allChanged_58 rfl rfl (by omega) (by omega) (fun h58 => by omega) (fun _ => ?_)
          refine Rg.step 62 F_Mo_allChanged_61 rfl (fun _ => rfl) ?_
          refine Rg.getf 65 F_Mo_allChanged_62 rfl rF_26_189 (gM hp) rfl ?_
          refine Rg.call 68 F_Mo_allChanged_65 rfl (one_S (by decide +kernel) rM_26_181 (by decide) (by simp) rfl rfl) (Nat.le_of_ble_eq_true rfl) (Cg.any (c_Mo_size (by omega))) ?_
          refine Rg.ldc2 (n := 1000000000) 71 F_Mo_allChanged_68 rfl rJ_26_278 rfl ?_
          refine Rg.lcgt 86 75 F_Mo_allChanged_71 F_Mo_allChanged_72 rfl rfl (by omega) (by omega) (fun h71 => by omega) (fun _ => ?_)
          refine Rg.step 76 F_Mo_allChanged_75 rfl (fun _ => rfl) ?_
          refine Rg.getf 79 F_Mo_allChanged_76 rfl rF_26_192 (gM hp) rfl ?_
          refine Rg.ldc2 (n := 1000000000) 82 F_Mo_allChanged_79 rfl rJ_26_278 rfl ?_
          refine Rg.lcle 88 86 F_Mo_allChanged_82 F_Mo_allChanged_83 rfl rfl (by omega) (by omega) (fun _ => ?_) (fun h82 => by omega)
          refine Rg.inc 91 F_Mo_allChanged_88 rfl rfl (by decide) ?_
          refine Rg.step 14 F_Mo_allChanged_91 rfl (fun _ => rfl) ?_
          exact Rg.weak hg (by simp [lput1, lput2, Value.category, fi0, fi1, fi2, fi3] <;> first | rfl | exact ⟨rfl, rfl⟩) (by simp [lput1, lput2, Value.category, fi0, fi1, fi2, fi3] <;> first | rfl | exact ⟨rfl, rfl⟩)
    · rw [chAll_skip ht] at hc
      obtain ⟨w1, x1, y1, hg⟩ := ih (k + 1) F N D x y (by omega) (by omega) wN hc
      refine ⟨w1, x1, y1, ?_⟩
      refine Rg.step 15 F_Mo_allChanged_14 rfl (fun _ => rfl) ?_
      refine Rg.bip 17 F_Mo_allChanged_15 rfl rfl ?_
      refine Rg.step 18 F_Mo_allChanged_17 rfl (fun _ => rfl) ?_
      refine Rg.mulI 19 F_Mo_allChanged_18 rfl ?_
      refine Rg.step 20 F_Mo_allChanged_19 rfl (fun _ => rfl) ?_
      refine Rg.getf 23 F_Mo_allChanged_20 rfl rF_26_66 (gM hp) rfl ?_
      refine Rg.step 24 F_Mo_allChanged_23 rfl (fun _ => rfl) ?_
      refine Rg.ild 25 F_Mo_allChanged_24 rfl (gR_changes hp) (by omega) (by decide) ?_
      refine Rg.addI 26 F_Mo_allChanged_25 rfl ?_
      refine Rg.icgeI 94 29 F_Mo_allChanged_26 rfl rfl (by omega) (by omega) (fun h26 => by omega) (fun _ => ?_)
      refine Rg.step 30 F_Mo_allChanged_29 rfl (fun _ => rfl) ?_
      refine Rg.getf 33 F_Mo_allChanged_30 rfl rF_26_69 (gM hp) rfl ?_
      refine Rg.step 34 F_Mo_allChanged_33 rfl (fun _ => rfl) ?_
      refine Rg.ild 35 F_Mo_allChanged_34 rfl (gR_changeTime hp) (by omega) (by decide) ?_
      refine Rg.step 36 F_Mo_allChanged_35 rfl (fun _ => rfl) ?_
      refine Rg.call 39 F_Mo_allChanged_36 rfl (one_S (by decide +kernel) rM_26_248 (by decide) (by simp) rfl rfl) (Nat.le_of_ble_eq_true rfl) (Cg.any (c_Mo_timeOf (by omega))) ?_
      refine Rg.iceqI 45 42 F_Mo_allChanged_39 rfl rfl (by omega) (by omega) (fun h39 => by omega) (fun _ => ?_)
      refine Rg.step 88 F_Mo_allChanged_42 rfl (fun _ => rfl) ?_
      refine Rg.inc 91 F_Mo_allChanged_88 rfl rfl (by decide) ?_
      refine Rg.step 14 F_Mo_allChanged_91 rfl (fun _ => rfl) ?_
      exact Rg.weak hg (by simp [lput1, lput2, Value.category, fi0, fi1, fi2, fi3] <;> first | rfl | exact ⟨rfl, rfl⟩) (by simp [lput1, lput2, Value.category, fi0, fi1, fi2, fi3] <;> first | rfl | exact ⟨rfl, rfl⟩)
theorem allch_none {d n0 : Nat} (hp : pre.length = 168) (hw : WT epsilonN epsilonD wishes wants wantN wantD actions needs needTime needOf needHow needN needD changes changeTime changeOf changeHow changeN changeD lastOf lastN lastD firstN firstD) {p : Int} (h1 : 0 ≤ p ∧ p < 24) (ha : 0 ≤ triedAction (p / 2) ∧ triedAction (p / 2) < actions) : ∀ (n : Nat) (k : Int) (F : Int → Prop) (N D : Int → Int) (x y : Int), k + n = 6 * (triedAction (p / 2)) + changes (triedAction (p / 2)) → 6 * (triedAction (p / 2)) ≤ k → WN N D → chAll changeTime changeOf changeHow changeN changeD (tmo p) n k (F, N, D) = none → ∃ F1 N1 D1 x1 y1, Rg false (d + 4) m_Mo_allChanged n0 14 [(3, .int (iI k)), (2, .int (iI (triedAction (p / 2)))), (0, .ref 168), (1, .int (iI p))] [] (MR pre code amountN amountD momentN momentD epsilonN epsilonD firstFacts firstN firstD wishes wants wantN wantD actions needs needTime needOf needHow needN needD changes changeTime changeOf changeHow changeN changeD lastOf lastN lastD steps stepAction startN startD lengthN lengthD rows row tried triedAction triedRows triedRow times unit F N D oldFacts oldN oldD point judged fault faultPoint toldFacts toldN toldD x y pointN pointD gone now leastN leastD greatestN greatestD events post) (.inl (some (.int (bP False)))) (MR pre code amountN amountD momentN momentD epsilonN epsilonD firstFacts firstN firstD wishes wants wantN wantD actions needs needTime needOf needHow needN needD changes changeTime changeOf changeHow changeN changeD lastOf lastN lastD steps stepAction startN startD lengthN lengthD rows row tried triedAction triedRows triedRow times unit F1 N1 D1 oldFacts oldN oldD point judged fault faultPoint toldFacts toldN toldD x1 y1 pointN pointD gone now leastN leastD greatestN greatestD events post) := by
  intro n
  obtain ⟨-, -, -, -, wA, -, -, -, -, -, -, wc, wcT, wcO, wcH, wcN, wcD, -, -, -, -⟩ := id hw
  have c0 := wc (triedAction (p / 2))
  have c2 := tmo_b p
  induction n with
  | zero =>
    intro k F N D x y hk hk2 wN hc
    cases hc
  | succ n ih =>
    intro k F N D x y hk hk2 wN hc
    have d1 := wcT k
    have d2 := wcH k
    by_cases ht : changeTime k = tmo p
    · by_cases h9 : 9 < changeHow k
      · rw [chAll_fact ht h9] at hc
        obtain ⟨F1, N1, D1, x1, y1, hg⟩ := ih (k + 1) _ N D x y (by omega) (by omega) wN hc
        refine ⟨F1, N1, D1, x1, y1, ?_⟩
        refine Rg.step 15 F_Mo_allChanged_14 rfl (fun _ => rfl) ?_
        refine Rg.bip 17 F_Mo_allChanged_15 rfl rfl ?_
        refine Rg.step 18 F_Mo_allChanged_17 rfl (fun _ => rfl) ?_
        refine Rg.mulI 19 F_Mo_allChanged_18 rfl ?_
        refine Rg.step 20 F_Mo_allChanged_19 rfl (fun _ => rfl) ?_
        refine Rg.getf 23 F_Mo_allChanged_20 rfl rF_26_66 (gM hp) rfl ?_
        refine Rg.step 24 F_Mo_allChanged_23 rfl (fun _ => rfl) ?_
        refine Rg.ild 25 F_Mo_allChanged_24 rfl (gR_changes hp) (by omega) (by decide) ?_
        refine Rg.addI 26 F_Mo_allChanged_25 rfl ?_
        refine Rg.icgeI 94 29 F_Mo_allChanged_26 rfl rfl (by omega) (by omega) (fun h26 => by omega) (fun _ => ?_)
        refine Rg.step 30 F_Mo_allChanged_29 rfl (fun _ => rfl) ?_
        refine Rg.getf 33 F_Mo_allChanged_30 rfl rF_26_69 (gM hp) rfl ?_
        refine Rg.step 34 F_Mo_allChanged_33 rfl (fun _ => rfl) ?_
        refine Rg.ild 35 F_Mo_allChanged_34 rfl (gR_changeTime hp) (by omega) (by decide) ?_
        refine Rg.step 36 F_Mo_allChanged_35 rfl (fun _ => rfl) ?_
        refine Rg.call 39 F_Mo_allChanged_36 rfl (one_S (by decide +kernel) rM_26_248 (by decide) (by simp) rfl rfl) (Nat.le_of_ble_eq_true rfl) (Cg.any (c_Mo_timeOf (by omega))) ?_
        refine Rg.iceqI 45 42 F_Mo_allChanged_39 rfl rfl (by omega) (by omega) (fun _ => ?_) (fun h39 => by omega)
        refine Rg.step 46 F_Mo_allChanged_45 rfl (fun _ => rfl) ?_
        refine Rg.step 47 F_Mo_allChanged_46 rfl (fun _ => rfl) ?_
        refine Rg.call 50 F_Mo_allChanged_47 rfl (one_V rM_26_274 (by decide) (by simp) rfl rfl (gM hp) rfl) (Nat.le_of_ble_eq_true rfl) (c_Mo_changed_f hp hw (by omega) h9) ?_
        refine Rg.step 51 F_Mo_allChanged_50 rfl (fun _ => rfl) ?_
        refine Rg.getf 54 F_Mo_allChanged_51 rfl rF_26_75 (gM hp) rfl ?_
        refine Rg.step 55 F_Mo_allChanged_54 rfl (fun _ => rfl) ?_
        refine Rg.ild 56 F_Mo_allChanged_55 rfl (gR_changeHow hp) (by omega) (by decide) ?_
        refine Rg.bip 58 F_Mo_allChanged_56 rfl rfl ?_
        refine Rg.icgeI 88 61 F_Mo_allChanged_58 rfl rfl (by omega) (by omega) (fun _ => ?_) (fun h58 => by omega)
        refine Rg.inc 91 F_Mo_allChanged_88 rfl rfl (by decide) ?_
        refine Rg.step 14 F_Mo_allChanged_91 rfl (fun _ => rfl) ?_
        exact Rg.weak hg (by simp [lput1, lput2, Value.category, fi0, fi1, fi2, fi3] <;> first | rfl | exact ⟨rfl, rfl⟩) (by simp [lput1, lput2, Value.category, fi0, fi1, fi2, fi3] <;> first | rfl | exact ⟨rfl, rfl⟩)
      · have hD := wcD (triedAction (p / 2)) k ha.1 ha.2 hk2 (by omega)
        by_cases hl : longP (altN changeOf changeHow changeN changeD k N D) (altD changeOf changeHow changeN changeD k N D)
        · clear hc
          have wD := wN (changeOf k)
          have q3 := wcN k
          have q2 : 0 < altD changeOf changeHow changeN changeD k N D ∧ altD changeOf changeHow changeN changeD k N D < 4611686018427387904 := by
            have m4 := mul_ps (a := D (changeOf k)) (b := changeD k) (A := 1000000000) (B := 1000) (by omega) (by omega)
            have r0 : 0 < rawD (changeHow k) (D (changeOf k)) (changeD k) ∧ rawD (changeHow k) (D (changeOf k)) (changeD k) ≤ 1000000000000 := by
              unfold rawD
              split <;> omega
            have := nD_pos (n := rawN (changeHow k) (N (changeOf k)) (D (changeOf k)) (changeN k) (changeD k)) r0.1
            unfold altD
            omega
          have q1 : -4611686018427387904 < altN changeOf changeHow changeN changeD k N D ∧ altN changeOf changeHow changeN changeD k N D < 4611686018427387904 := alt_bd wD q3 hD
          refine ⟨F, up1 N (changeOf k) (altN changeOf changeHow changeN changeD k N D), up1 D (changeOf k) (altD changeOf changeHow changeN changeD k N D), altN changeOf changeHow changeN changeD k N D, altD changeOf changeHow changeN changeD k N D, ?_⟩
          unfold longP at hl
          refine Rg.step 15 F_Mo_allChanged_14 rfl (fun _ => rfl) ?_
          refine Rg.bip 17 F_Mo_allChanged_15 rfl rfl ?_
          refine Rg.step 18 F_Mo_allChanged_17 rfl (fun _ => rfl) ?_
          refine Rg.mulI 19 F_Mo_allChanged_18 rfl ?_
          refine Rg.step 20 F_Mo_allChanged_19 rfl (fun _ => rfl) ?_
          refine Rg.getf 23 F_Mo_allChanged_20 rfl rF_26_66 (gM hp) rfl ?_
          refine Rg.step 24 F_Mo_allChanged_23 rfl (fun _ => rfl) ?_
          refine Rg.ild 25 F_Mo_allChanged_24 rfl (gR_changes hp) (by omega) (by decide) ?_
          refine Rg.addI 26 F_Mo_allChanged_25 rfl ?_
          refine Rg.icgeI 94 29 F_Mo_allChanged_26 rfl rfl (by omega) (by omega) (fun h26 => by omega) (fun _ => ?_)
          refine Rg.step 30 F_Mo_allChanged_29 rfl (fun _ => rfl) ?_
          refine Rg.getf 33 F_Mo_allChanged_30 rfl rF_26_69 (gM hp) rfl ?_
          refine Rg.step 34 F_Mo_allChanged_33 rfl (fun _ => rfl) ?_
          refine Rg.ild 35 F_Mo_allChanged_34 rfl (gR_changeTime hp) (by omega) (by decide) ?_
          refine Rg.step 36 F_Mo_allChanged_35 rfl (fun _ => rfl) ?_
          refine Rg.call 39 F_Mo_allChanged_36 rfl (one_S (by decide +kernel) rM_26_248 (by decide) (by simp) rfl rfl) (Nat.le_of_ble_eq_true rfl) (Cg.any (c_Mo_timeOf (by omega))) ?_
          refine Rg.iceqI 45 42 F_Mo_allChanged_39 rfl rfl (by omega) (by omega) (fun _ => ?_) (fun h39 => by omega)
          refine Rg.step 46 F_Mo_allChanged_45 rfl (fun _ => rfl) ?_
          refine Rg.step 47 F_Mo_allChanged_46 rfl (fun _ => rfl) ?_
          refine Rg.call 50 F_Mo_allChanged_47 rfl (one_V rM_26_274 (by decide) (by simp) rfl rfl (gM hp) rfl) (Nat.le_of_ble_eq_true rfl) (c_Mo_changed_n hp hw wN (by omega) hD h9) ?_
          refine Rg.step 51 F_Mo_allChanged_50 rfl (fun _ => rfl) ?_
          refine Rg.getf 54 F_Mo_allChanged_51 rfl rF_26_75 (gM hp) rfl ?_
          refine Rg.step 55 F_Mo_allChanged_54 rfl (fun _ => rfl) ?_
          refine Rg.ild 56 F_Mo_allChanged_55 rfl (gR_changeHow hp) (by omega) (by decide) ?_
          refine Rg.bip 58 F_Mo_allChanged_56 rfl rfl ?_
          refine Rg.icgeI 88 61 F_Mo_allChanged_58 rfl rfl (by omega) (by omega) (fun h58 => by omega) (fun _ => ?_)
          refine Rg.step 62 F_Mo_allChanged_61 rfl (fun _ => rfl) ?_
          refine Rg.getf 65 F_Mo_allChanged_62 rfl rF_26_189 (gM hp) rfl ?_
          refine Rg.call 68 F_Mo_allChanged_65 rfl (one_S (by decide +kernel) rM_26_181 (by decide) (by simp) rfl rfl) (Nat.le_of_ble_eq_true rfl) (Cg.any (c_Mo_size (by omega))) ?_
          refine Rg.ldc2 (n := 1000000000) 71 F_Mo_allChanged_68 rfl rJ_26_278 rfl ?_
          refine Rg.lcgt 86 75 F_Mo_allChanged_71 F_Mo_allChanged_72 rfl rfl (by omega) (by omega) (fun h71 => ?_) (fun h71 => ?_)
          · refine Rg.step 87 F_Mo_allChanged_86 rfl (fun _ => rfl) ?_
            exact Rg.ret0 F_Mo_allChanged_87 rfl (fun z => z) rfl
          · refine Rg.step 76 F_Mo_allChanged_75 rfl (fun _ => rfl) ?_
            refine Rg.getf 79 F_Mo_allChanged_76 rfl rF_26_192 (gM hp) rfl ?_
            refine Rg.ldc2 (n := 1000000000) 82 F_Mo_allChanged_79 rfl rJ_26_278 rfl ?_
            refine Rg.lcle 88 86 F_Mo_allChanged_82 F_Mo_allChanged_83 rfl rfl (by omega) (by omega) (fun h82 => by omega) (fun _ => ?_)
            refine Rg.step 87 F_Mo_allChanged_86 rfl (fun _ => rfl) ?_
            exact Rg.ret0 F_Mo_allChanged_87 rfl (fun z => z) rfl
        · rw [chAll_go ht h9 hl] at hc
          have wD := wN (changeOf k)
          have q3 := wcN k
          have q2 : 0 < altD changeOf changeHow changeN changeD k N D ∧ altD changeOf changeHow changeN changeD k N D < 4611686018427387904 := by
            have m4 := mul_ps (a := D (changeOf k)) (b := changeD k) (A := 1000000000) (B := 1000) (by omega) (by omega)
            have r0 : 0 < rawD (changeHow k) (D (changeOf k)) (changeD k) ∧ rawD (changeHow k) (D (changeOf k)) (changeD k) ≤ 1000000000000 := by
              unfold rawD
              split <;> omega
            have := nD_pos (n := rawN (changeHow k) (N (changeOf k)) (D (changeOf k)) (changeN k) (changeD k)) r0.1
            unfold altD
            omega
          have q1 : -4611686018427387904 < altN changeOf changeHow changeN changeD k N D ∧ altN changeOf changeHow changeN changeD k N D < 4611686018427387904 := alt_bd wD q3 hD
          obtain ⟨F1, N1, D1, x1, y1, hg⟩ := ih (k + 1) F _ _ (altN changeOf changeHow changeN changeD k N D) (altD changeOf changeHow changeN changeD k N D) (by omega) (by omega) (WN_up wN q2.1 hl) hc
          refine ⟨F1, N1, D1, x1, y1, ?_⟩
          unfold longP at hl
          refine Rg.step 15 F_Mo_allChanged_14 rfl (fun _ => rfl) ?_
          refine Rg.bip 17 F_Mo_allChanged_15 rfl rfl ?_
          refine Rg.step 18 F_Mo_allChanged_17 rfl (fun _ => rfl) ?_
          refine Rg.mulI 19 F_Mo_allChanged_18 rfl ?_
          refine Rg.step 20 F_Mo_allChanged_19 rfl (fun _ => rfl) ?_
          refine Rg.getf 23 F_Mo_allChanged_20 rfl rF_26_66 (gM hp) rfl ?_
          refine Rg.step 24 F_Mo_allChanged_23 rfl (fun _ => rfl) ?_
          refine Rg.ild 25 F_Mo_allChanged_24 rfl (gR_changes hp) (by omega) (by decide) ?_
          refine Rg.addI 26 F_Mo_allChanged_25 rfl ?_
          refine Rg.icgeI 94 29 F_Mo_allChanged_26 rfl rfl (by omega) (by omega) (fun h26 => by omega) (fun _ => ?_)
          refine Rg.step 30 F_Mo_allChanged_29 rfl (fun _ => rfl) ?_
          refine Rg.getf 33 F_Mo_allChanged_30 rfl rF_26_69 (gM hp) rfl ?_
          refine Rg.step 34 F_Mo_allChanged_33 rfl (fun _ => rfl) ?_
          refine Rg.ild 35 F_Mo_allChanged_34 rfl (gR_changeTime hp) (by omega) (by decide) ?_
          refine Rg.step 36 F_Mo_allChanged_35 rfl (fun _ => rfl) ?_
          refine Rg.call 39 F_Mo_allChanged_36 rfl (one_S (by decide +kernel) rM_26_248 (by decide) (by simp) rfl rfl) (Nat.le_of_ble_eq_true rfl) (Cg.any (c_Mo_timeOf (by omega))) ?_
          refine Rg.iceqI 45 42 F_Mo_allChanged_39 rfl rfl (by omega) (by omega) (fun _ => ?_) (fun h39 => by omega)
          refine Rg.step 46 F_Mo_allChanged_45 rfl (fun _ => rfl) ?_
          refine Rg.step 47 F_Mo_allChanged_46 rfl (fun _ => rfl) ?_
          refine Rg.call 50 F_Mo_allChanged_47 rfl (one_V rM_26_274 (by decide) (by simp) rfl rfl (gM hp) rfl) (Nat.le_of_ble_eq_true rfl) (c_Mo_changed_n hp hw wN (by omega) hD h9) ?_
          refine Rg.step 51 F_Mo_allChanged_50 rfl (fun _ => rfl) ?_
          refine Rg.getf 54 F_Mo_allChanged_51 rfl rF_26_75 (gM hp) rfl ?_
          refine Rg.step 55 F_Mo_allChanged_54 rfl (fun _ => rfl) ?_
          refine Rg.ild 56 F_Mo_allChanged_55 rfl (gR_changeHow hp) (by omega) (by decide) ?_
          refine Rg.bip 58 F_Mo_allChanged_56 rfl rfl ?_
          refine Rg.icgeI 88 61 F_Mo_allChanged_58 rfl rfl (by omega) (by omega) (fun h58 => by omega) (fun _ => ?_)
          refine Rg.step 62 F_Mo_allChanged_61 rfl (fun _ => rfl) ?_
          refine Rg.getf 65 F_Mo_allChanged_62 rfl rF_26_189 (gM hp) rfl ?_
          refine Rg.call 68 F_Mo_allChanged_65 rfl (one_S (by decide +kernel) rM_26_181 (by decide) (by simp) rfl rfl) (Nat.le_of_ble_eq_true rfl) (Cg.any (c_Mo_size (by omega))) ?_
          refine Rg.ldc2 (n := 1000000000) 71 F_Mo_allChanged_68 rfl rJ_26_278 rfl ?_
          refine Rg.lcgt 86 75 F_Mo_allChanged_71 F_Mo_allChanged_72 rfl rfl (by omega) (by omega) (fun h71 => by omega) (fun _ => ?_)
          refine Rg.step 76 F_Mo_allChanged_75 rfl (fun _ => rfl) ?_
          refine Rg.getf 79 F_Mo_allChanged_76 rfl rF_26_192 (gM hp) rfl ?_
          refine Rg.ldc2 (n := 1000000000) 82 F_Mo_allChanged_79 rfl rJ_26_278 rfl ?_
          refine Rg.lcle 88 86 F_Mo_allChanged_82 F_Mo_allChanged_83 rfl rfl (by omega) (by omega) (fun _ => ?_) (fun h82 => by omega)
          refine Rg.inc 91 F_Mo_allChanged_88 rfl rfl (by decide) ?_
          refine Rg.step 14 F_Mo_allChanged_91 rfl (fun _ => rfl) ?_
          exact Rg.weak hg (by simp [lput1, lput2, Value.category, fi0, fi1, fi2, fi3] <;> first | rfl | exact ⟨rfl, rfl⟩) (by simp [lput1, lput2, Value.category, fi0, fi1, fi2, fi3] <;> first | rfl | exact ⟨rfl, rfl⟩)
    · rw [chAll_skip ht] at hc
      obtain ⟨F1, N1, D1, x1, y1, hg⟩ := ih (k + 1) F N D x y (by omega) (by omega) wN hc
      refine ⟨F1, N1, D1, x1, y1, ?_⟩
      refine Rg.step 15 F_Mo_allChanged_14 rfl (fun _ => rfl) ?_
      refine Rg.bip 17 F_Mo_allChanged_15 rfl rfl ?_
      refine Rg.step 18 F_Mo_allChanged_17 rfl (fun _ => rfl) ?_
      refine Rg.mulI 19 F_Mo_allChanged_18 rfl ?_
      refine Rg.step 20 F_Mo_allChanged_19 rfl (fun _ => rfl) ?_
      refine Rg.getf 23 F_Mo_allChanged_20 rfl rF_26_66 (gM hp) rfl ?_
      refine Rg.step 24 F_Mo_allChanged_23 rfl (fun _ => rfl) ?_
      refine Rg.ild 25 F_Mo_allChanged_24 rfl (gR_changes hp) (by omega) (by decide) ?_
      refine Rg.addI 26 F_Mo_allChanged_25 rfl ?_
      refine Rg.icgeI 94 29 F_Mo_allChanged_26 rfl rfl (by omega) (by omega) (fun h26 => by omega) (fun _ => ?_)
      refine Rg.step 30 F_Mo_allChanged_29 rfl (fun _ => rfl) ?_
      refine Rg.getf 33 F_Mo_allChanged_30 rfl rF_26_69 (gM hp) rfl ?_
      refine Rg.step 34 F_Mo_allChanged_33 rfl (fun _ => rfl) ?_
      refine Rg.ild 35 F_Mo_allChanged_34 rfl (gR_changeTime hp) (by omega) (by decide) ?_
      refine Rg.step 36 F_Mo_allChanged_35 rfl (fun _ => rfl) ?_
      refine Rg.call 39 F_Mo_allChanged_36 rfl (one_S (by decide +kernel) rM_26_248 (by decide) (by simp) rfl rfl) (Nat.le_of_ble_eq_true rfl) (Cg.any (c_Mo_timeOf (by omega))) ?_
      refine Rg.iceqI 45 42 F_Mo_allChanged_39 rfl rfl (by omega) (by omega) (fun h39 => by omega) (fun _ => ?_)
      refine Rg.step 88 F_Mo_allChanged_42 rfl (fun _ => rfl) ?_
      refine Rg.inc 91 F_Mo_allChanged_88 rfl rfl (by decide) ?_
      refine Rg.step 14 F_Mo_allChanged_91 rfl (fun _ => rfl) ?_
      exact Rg.weak hg (by simp [lput1, lput2, Value.category, fi0, fi1, fi2, fi3] <;> first | rfl | exact ⟨rfl, rfl⟩) (by simp [lput1, lput2, Value.category, fi0, fi1, fi2, fi3] <;> first | rfl | exact ⟨rfl, rfl⟩)
theorem c_Mo_allChanged {d : Nat} (hp : pre.length = 168) (hw : WT epsilonN epsilonD wishes wants wantN wantD actions needs needTime needOf needHow needN needD changes changeTime changeOf changeHow changeN changeD lastOf lastN lastD firstN firstD) {p : Int} (h1 : 0 ≤ p ∧ p < 24) (ha : 0 ≤ triedAction (p / 2) ∧ triedAction (p / 2) < actions) (wN : WN numN numD) {F1 : Int → Prop} {N1 D1 : Int → Int} (hc : chAll changeTime changeOf changeHow changeN changeD (tmo p) (changes (triedAction (p / 2))).toNat (6 * (triedAction (p / 2))) (facts, numN, numD) = some (F1, N1, D1)) : WN N1 D1 ∧ ∃ x1 y1, Cg false (d + 4) m_Mo_allChanged [.ref 168, .int (iI p)] (MR pre code amountN amountD momentN momentD epsilonN epsilonD firstFacts firstN firstD wishes wants wantN wantD actions needs needTime needOf needHow needN needD changes changeTime changeOf changeHow changeN changeD lastOf lastN lastD steps stepAction startN startD lengthN lengthD rows row tried triedAction triedRows triedRow times unit facts numN numD oldFacts oldN oldD point judged fault faultPoint toldFacts toldN toldD outN outD pointN pointD gone now leastN leastD greatestN greatestD events post) (.inl (some (.int (bP True)))) (MR pre code amountN amountD momentN momentD epsilonN epsilonD firstFacts firstN firstD wishes wants wantN wantD actions needs needTime needOf needHow needN needD changes changeTime changeOf changeHow changeN changeD lastOf lastN lastD steps stepAction startN startD lengthN lengthD rows row tried triedAction triedRows triedRow times unit F1 N1 D1 oldFacts oldN oldD point judged fault faultPoint toldFacts toldN toldD x1 y1 pointN pointD gone now leastN leastD greatestN greatestD events post) := by
  obtain ⟨-, -, -, -, wA, -, -, -, -, -, -, wc, -, -, -, -, -, -, -, -, -⟩ := id hw
  have c0 := wc (triedAction (p / 2))
  obtain ⟨w1, x1, y1, hg⟩ := allch_some (d := d) (pre := pre) (post := post) hp hw h1 ha (changes (triedAction (p / 2))).toNat (6 * (triedAction (p / 2))) facts numN numD outN outD (by omega) (by omega) wN hc
  refine ⟨w1, x1, y1, ?_⟩
  refine Cg.of (Nat.le_of_ble_eq_true rfl) ?_
  change Rg _ _ _ _ 0 [(0, .ref 168), (1, .int (iI p))] [] _ _ _
  refine Rg.step 1 F_Mo_allChanged_0 rfl (fun _ => rfl) ?_
  refine Rg.getf 4 F_Mo_allChanged_1 rfl rF_26_111 (gM hp) rfl ?_
  refine Rg.step 5 F_Mo_allChanged_4 rfl (fun _ => rfl) ?_
  refine Rg.step 6 F_Mo_allChanged_5 rfl (fun _ => rfl) ?_
  refine Rg.divIp 7 F_Mo_allChanged_6 rfl (by omega) (by omega) ?_
  refine Rg.ild 8 F_Mo_allChanged_7 rfl (gR_triedAction hp) (by omega) (by decide) ?_
  refine Rg.step 9 F_Mo_allChanged_8 rfl (fun _ => rfl) ?_
  refine Rg.bip 11 F_Mo_allChanged_9 rfl rfl ?_
  refine Rg.step 12 F_Mo_allChanged_11 rfl (fun _ => rfl) ?_
  refine Rg.mulI 13 F_Mo_allChanged_12 rfl ?_
  refine Rg.step 14 F_Mo_allChanged_13 rfl (fun _ => rfl) ?_
  exact Rg.weak hg (by simp [lput1, lput2, Value.category, fi0, fi1, fi2, fi3] <;> first | rfl | exact ⟨rfl, rfl⟩) (by simp [lput1, lput2, Value.category, fi0, fi1, fi2, fi3] <;> first | rfl | exact ⟨rfl, rfl⟩)
theorem c_Mo_allChanged_no {d : Nat} (hp : pre.length = 168) (hw : WT epsilonN epsilonD wishes wants wantN wantD actions needs needTime needOf needHow needN needD changes changeTime changeOf changeHow changeN changeD lastOf lastN lastD firstN firstD) {p : Int} (h1 : 0 ≤ p ∧ p < 24) (ha : 0 ≤ triedAction (p / 2) ∧ triedAction (p / 2) < actions) (wN : WN numN numD) (hc : chAll changeTime changeOf changeHow changeN changeD (tmo p) (changes (triedAction (p / 2))).toNat (6 * (triedAction (p / 2))) (facts, numN, numD) = none) : ∃ F1 N1 D1 x1 y1, Cg false (d + 4) m_Mo_allChanged [.ref 168, .int (iI p)] (MR pre code amountN amountD momentN momentD epsilonN epsilonD firstFacts firstN firstD wishes wants wantN wantD actions needs needTime needOf needHow needN needD changes changeTime changeOf changeHow changeN changeD lastOf lastN lastD steps stepAction startN startD lengthN lengthD rows row tried triedAction triedRows triedRow times unit facts numN numD oldFacts oldN oldD point judged fault faultPoint toldFacts toldN toldD outN outD pointN pointD gone now leastN leastD greatestN greatestD events post) (.inl (some (.int (bP False)))) (MR pre code amountN amountD momentN momentD epsilonN epsilonD firstFacts firstN firstD wishes wants wantN wantD actions needs needTime needOf needHow needN needD changes changeTime changeOf changeHow changeN changeD lastOf lastN lastD steps stepAction startN startD lengthN lengthD rows row tried triedAction triedRows triedRow times unit F1 N1 D1 oldFacts oldN oldD point judged fault faultPoint toldFacts toldN toldD x1 y1 pointN pointD gone now leastN leastD greatestN greatestD events post) := by
  obtain ⟨-, -, -, -, wA, -, -, -, -, -, -, wc, -, -, -, -, -, -, -, -, -⟩ := id hw
  have c0 := wc (triedAction (p / 2))
  obtain ⟨F1, N1, D1, x1, y1, hg⟩ := allch_none (d := d) (pre := pre) (post := post) hp hw h1 ha (changes (triedAction (p / 2))).toNat (6 * (triedAction (p / 2))) facts numN numD outN outD (by omega) (by omega) wN hc
  refine ⟨F1, N1, D1, x1, y1, ?_⟩
  refine Cg.of (Nat.le_of_ble_eq_true rfl) ?_
  change Rg _ _ _ _ 0 [(0, .ref 168), (1, .int (iI p))] [] _ _ _
  refine Rg.step 1 F_Mo_allChanged_0 rfl (fun _ => rfl) ?_
  refine Rg.getf 4 F_Mo_allChanged_1 rfl rF_26_111 (gM hp) rfl ?_
  refine Rg.step 5 F_Mo_allChanged_4 rfl (fun _ => rfl) ?_
  refine Rg.step 6 F_Mo_allChanged_5 rfl (fun _ => rfl) ?_
  refine Rg.divIp 7 F_Mo_allChanged_6 rfl (by omega) (by omega) ?_
  refine Rg.ild 8 F_Mo_allChanged_7 rfl (gR_triedAction hp) (by omega) (by decide) ?_
  refine Rg.step 9 F_Mo_allChanged_8 rfl (fun _ => rfl) ?_
  refine Rg.bip 11 F_Mo_allChanged_9 rfl rfl ?_
  refine Rg.step 12 F_Mo_allChanged_11 rfl (fun _ => rfl) ?_
  refine Rg.mulI 13 F_Mo_allChanged_12 rfl ?_
  refine Rg.step 14 F_Mo_allChanged_13 rfl (fun _ => rfl) ?_
  exact Rg.weak hg (by simp [lput1, lput2, Value.category, fi0, fi1, fi2, fi3] <;> first | rfl | exact ⟨rfl, rfl⟩) (by simp [lput1, lput2, Value.category, fi0, fi1, fi2, fi3] <;> first | rfl | exact ⟨rfl, rfl⟩)
end R47
