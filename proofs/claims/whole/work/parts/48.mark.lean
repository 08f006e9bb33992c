/-! The reference: times of points, and the next ones. -/
/-- the fraction n / d is at most m / e -/
def leF (n d m e : Int) : Prop := n * e ≤ m * d
theorem cmpF_le {n d m e : Int} : cmpF n d m e ≤ 0 ↔ leF n d m e := by
  unfold cmpF leF
  split
  · omega
  · split <;> omega
theorem cmpF_lt0 {n d m e : Int} : cmpF n d m e < 0 ↔ ¬ leF m e n d := by
  unfold cmpF leF
  split
  · omega
  · split <;> omega
theorem cmpF_eq0 {n d m e : Int} : cmpF n d m e = 0 ↔ leF n d m e ∧ leF m e n d := by
  unfold cmpF leF
  split
  · omega
  · split <;> omega
theorem leF_refl (n d : Int) : leF n d n d := Int.le_refl _
theorem leF_total (n d m e : Int) : leF n d m e ∨ leF m e n d := by
  unfold leF
  omega
theorem leF_trans {a b c d e f : Int} (hb : 0 < b) (hd : 0 < d) (hf : 0 < f) (h1 : leF a b c d) (h2 : leF c d e f) : leF a b e f := by
  unfold leF at *
  have h3 : a * d * f ≤ c * b * f := Int.mul_le_mul_of_nonneg_right h1 (by omega)
  have h4 : c * f * b ≤ e * d * b := Int.mul_le_mul_of_nonneg_right h2 (by omega)
  have e1 : c * b * f = c * f * b := by rw [Int.mul_assoc, Int.mul_comm b f, ← Int.mul_assoc]
  have e2 : a * d * f = a * f * d := by rw [Int.mul_assoc, Int.mul_comm d f, ← Int.mul_assoc]
  have e3 : e * d * b = e * b * d := by rw [Int.mul_assoc, Int.mul_comm d b, ← Int.mul_assoc]
  exact Int.le_of_mul_le_mul_right (by omega : a * f * d ≤ e * b * d) hd
theorem nN_mul {n q : Int} : nN n q * (Int.gcd n q : Int) = n := by
  unfold nN
  exact Int.ediv_mul_cancel (Int.gcd_dvd_left _ _)
theorem nD_mul {n q : Int} : nD n q * (Int.gcd n q : Int) = q := by
  unfold nD
  exact Int.ediv_mul_cancel (Int.gcd_dvd_right _ _)
theorem mul_lt_iff {a b c : Int} (h : 0 < c) : a * c < b * c ↔ a < b := ⟨fun z => Int.lt_of_mul_lt_mul_right z (by omega), fun z => Int.mul_lt_mul_of_pos_right z h⟩
theorem cmpF_red {n q m e : Int} (hq : 0 < q) : cmpF (nN n q) (nD n q) m e = cmpF n q m e := by
  have hg := gcd_pos' (n := n) hq
  have e1 : nN n q * e * (Int.gcd n q : Int) = n * e := by rw [Int.mul_assoc, Int.mul_comm e, ← Int.mul_assoc, nN_mul]
  have e2 : m * nD n q * (Int.gcd n q : Int) = m * q := by rw [Int.mul_assoc, nD_mul]
  have l1 := mul_lt_iff (a := nN n q * e) (b := m * nD n q) hg
  have l2 := mul_lt_iff (a := m * nD n q) (b := nN n q * e) hg
  rw [e1, e2] at l1 l2
  unfold cmpF
  by_cases z1 : n * e < m * q
  · rw [if_pos z1, if_pos (l1.mp z1)]
  · rw [if_neg z1, if_neg (fun z => z1 (l1.mpr z))]
    by_cases z2 : m * q < n * e
    · rw [if_neg (by omega), if_neg (by have := l2.mp z2; omega)]
    · have : ¬ m * nD n q < nN n q * e := fun z => z2 (l2.mpr z)
      have : ¬ nN n q * e < m * nD n q := fun z => z1 (l1.mpr z)
      rw [if_pos (by omega), if_pos (by omega)]
theorem cmpF_red2 {n q m e : Int} (hq : 0 < q) : cmpF m e (nN n q) (nD n q) = cmpF m e n q := by rw [cmpF_sw, cmpF_red hq, ← cmpF_sw]
/-- the time of a point -/
def ptN (startN startD lengthN lengthD : Int → Int) (p : Int) : Int := if p % 2 = 0 then startN (p / 2) else nN (startN (p / 2) * lengthD (p / 2) + lengthN (p / 2) * startD (p / 2)) (startD (p / 2) * lengthD (p / 2))
def ptD (startN startD lengthN lengthD : Int → Int) (p : Int) : Int := if p % 2 = 0 then startD (p / 2) else nD (startN (p / 2) * lengthD (p / 2) + lengthN (p / 2) * startD (p / 2)) (startD (p / 2) * lengthD (p / 2))
def WPL (steps : Int) (startN startD lengthN lengthD : Int → Int) : Prop := ∀ s, 0 ≤ s → s < steps → (0 ≤ startN s ∧ startN s ≤ 100000000000 ∧ 0 < startD s ∧ startD s ≤ 1000000 ∧ 0 < lengthN s ∧ lengthN s ≤ 100000000000 ∧ 0 < lengthD s ∧ lengthD s ≤ 1000000) ∧ ptN startN startD lengthN lengthD (2 * s + 1) ≤ 100000000000 ∧ ptD startN startD lengthN lengthD (2 * s + 1) ≤ 1000000
theorem WPL_pt {steps : Int} {startN startD lengthN lengthD : Int → Int} (h : WPL steps startN startD lengthN lengthD) {p : Int} (h1 : 0 ≤ p) (h2 : p < 2 * steps) : 0 ≤ ptN startN startD lengthN lengthD p ∧ ptN startN startD lengthN lengthD p ≤ 100000000000 ∧ 0 < ptD startN startD lengthN lengthD p ∧ ptD startN startD lengthN lengthD p ≤ 1000000 := by
  obtain ⟨⟨a1, a2, a3, a4, a5, a6, a7, a8⟩, b1, b2⟩ := h (p / 2) (by omega) (by omega)
  by_cases hp : p % 2 = 0
  · unfold ptN ptD
    rw [if_pos hp, if_pos hp]
    omega
  · have e1 : 2 * (p / 2) + 1 = p := by omega
    rw [e1] at b1 b2
    have hD : 0 < startD (p / 2) * lengthD (p / 2) := Int.mul_pos a3 a7
    have := nD_pos (n := startN (p / 2) * lengthD (p / 2) + lengthN (p / 2) * startD (p / 2)) hD
    have hN : 0 ≤ startN (p / 2) * lengthD (p / 2) + lengthN (p / 2) * startD (p / 2) := Int.add_nonneg (Int.mul_nonneg a1 (by omega)) (Int.mul_nonneg (by omega) (by omega))
    refine ⟨?_, b1, ?_, b2⟩
    · unfold ptN
      rw [if_neg hp]
      exact Int.ediv_nonneg hN (by omega)
    · unfold ptD
      rw [if_neg hp]
      exact this.1
section R48
variable {pre post mem : AM}
variable {code amountN amountD momentN momentD epsilonN epsilonD actions steps rows tried triedRows unit point judged fault faultPoint outN outD : Int}
variable {firstN firstD wishes wants wantN wantD needs needTime needOf needHow needN needD changes changeTime changeOf changeHow changeN changeD lastOf lastN lastD stepAction startN startD lengthN lengthD row triedAction triedRow times numN numD oldN oldD toldN toldD pointN pointD leastN leastD greatestN greatestD events : Int → Int}
variable {firstFacts facts oldFacts toldFacts gone now : Int → Prop}
theorem takePlan_l2 {d n0 : Nat} (hp : pre.length = 168) (wR : 0 ≤ rows ∧ rows ≤ 24) : ∀ (n : Nat) (k : Int), k + n = rows → 0 ≤ k → Rg false d m_Mo_takePlan n0 46 [(1, .int (iI k)), (0, .ref 168)] [] (MR pre code amountN amountD momentN momentD epsilonN epsilonD firstFacts firstN firstD wishes wants wantN wantD actions needs needTime needOf needHow needN needD changes changeTime changeOf changeHow changeN changeD lastOf lastN lastD steps stepAction startN startD lengthN lengthD rows row tried triedAction triedRows (mix k row triedRow) times unit facts numN numD oldFacts oldN oldD point judged fault faultPoint toldFacts toldN toldD outN outD pointN pointD gone now leastN leastD greatestN greatestD events post) (.inl none) (MR pre code amountN amountD momentN momentD epsilonN epsilonD firstFacts firstN firstD wishes wants wantN wantD actions needs needTime needOf needHow needN needD changes changeTime changeOf changeHow changeN changeD lastOf lastN lastD steps stepAction startN startD lengthN lengthD rows row tried triedAction triedRows (mix rows row triedRow) times unit facts numN numD oldFacts oldN oldD point judged fault faultPoint toldFacts toldN toldD outN outD pointN pointD gone now leastN leastD greatestN greatestD events post) := by
  intro n
  induction n with
  | zero =>
    intro k hk hk2
    have hk : k = rows := by omega
    subst hk
    refine Rg.step 47 F_Mo_takePlan_46 rfl (fun _ => rfl) ?_
    refine Rg.step 48 F_Mo_takePlan_47 rfl (fun _ => rfl) ?_
    refine Rg.getf 51 F_Mo_takePlan_48 rfl rF_26_245 (gM hp) rfl ?_
    refine Rg.icgeI 72 54 F_Mo_takePlan_51 rfl rfl (by omega) (by omega) (fun _ => ?_) (fun h51 => by omega)
    exact Rg.retV F_Mo_takePlan_72 rfl rfl
  | succ n ih =>
    intro k hk hk2
    refine Rg.step 47 F_Mo_takePlan_46 rfl (fun _ => rfl) ?_
    refine Rg.step 48 F_Mo_takePlan_47 rfl (fun _ => rfl) ?_
    refine Rg.getf 51 F_Mo_takePlan_48 rfl rF_26_245 (gM hp) rfl ?_
    refine Rg.icgeI 72 54 F_Mo_takePlan_51 rfl rfl (by omega) (by omega) (fun h51 => by omega) (fun _ => ?_)
    refine Rg.step 55 F_Mo_takePlan_54 rfl (fun _ => rfl) ?_
    refine Rg.getf 58 F_Mo_takePlan_55 rfl rF_26_114 (gM hp) rfl ?_
    refine Rg.step 59 F_Mo_takePlan_58 rfl (fun _ => rfl) ?_
    refine Rg.step 60 F_Mo_takePlan_59 rfl (fun _ => rfl) ?_
    refine Rg.getf 63 F_Mo_takePlan_60 rfl rF_26_108 (gM hp) rfl ?_
    refine Rg.step 64 F_Mo_takePlan_63 rfl (fun _ => rfl) ?_
    refine Rg.ild 65 F_Mo_takePlan_64 rfl (gR_row hp) (by omega) (by decide) ?_
    refine Rg.ist 66 F_Mo_takePlan_65 rfl (gR_triedRow hp) (by decide) (sR_triedRow hp) (by omega) (by decide) ?_
    refine Rg.inc 69 F_Mo_takePlan_66 rfl rfl (by decide) ?_
    refine Rg.step 46 F_Mo_takePlan_69 rfl (fun _ => rfl) ?_
    rw [mix_up]
    exact Rg.weak (ih (k + 1) (by omega) (by omega)) (by simp [lput1, lput2, Value.category, fi0, fi1, fi2, fi3] <;> first | rfl | exact ⟨rfl, rfl⟩) (by simp [lput1, lput2, Value.category, fi0, fi1, fi2, fi3] <;> first | rfl | exact ⟨rfl, rfl⟩)
theorem takePlan_l1 {d n0 : Nat} (hp : pre.length = 168) (wS : 0 ≤ steps ∧ steps ≤ 12) (wR : 0 ≤ rows ∧ rows ≤ 24) : ∀ (n : Nat) (k : Int), k + n = steps → 0 ≤ k → Rg false d m_Mo_takePlan n0 18 [(1, .int (iI k)), (0, .ref 168)] [] (MR pre code amountN amountD momentN momentD epsilonN epsilonD firstFacts firstN firstD wishes wants wantN wantD actions needs needTime needOf needHow needN needD changes changeTime changeOf changeHow changeN changeD lastOf lastN lastD steps stepAction startN startD lengthN lengthD rows row tried (mix k stepAction triedAction) triedRows triedRow times unit facts numN numD oldFacts oldN oldD point judged fault faultPoint toldFacts toldN toldD outN outD pointN pointD gone now leastN leastD greatestN greatestD events post) (.inl none) (MR pre code amountN amountD momentN momentD epsilonN epsilonD firstFacts firstN firstD wishes wants wantN wantD actions needs needTime needOf needHow needN needD changes changeTime changeOf changeHow changeN changeD lastOf lastN lastD steps stepAction startN startD lengthN lengthD rows row tried (mix steps stepAction triedAction) triedRows (mix rows row triedRow) times unit facts numN numD oldFacts oldN oldD point judged fault faultPoint toldFacts toldN toldD outN outD pointN pointD gone now leastN leastD greatestN greatestD events post) := by
  intro n
  induction n with
  | zero =>
    intro k hk hk2
    have hk : k = steps := by omega
    subst hk
    refine Rg.step 19 F_Mo_takePlan_18 rfl (fun _ => rfl) ?_
    refine Rg.step 20 F_Mo_takePlan_19 rfl (fun _ => rfl) ?_
    refine Rg.getf 23 F_Mo_takePlan_20 rfl rF_26_242 (gM hp) rfl ?_
    refine Rg.icgeI 44 26 F_Mo_takePlan_23 rfl rfl (by omega) (by omega) (fun _ => ?_) (fun h23 => by omega)
    refine Rg.step 45 F_Mo_takePlan_44 rfl (fun _ => rfl) ?_
    refine Rg.step 46 F_Mo_takePlan_45 rfl (fun _ => rfl) ?_
    exact Rg.frM (kR_triedRow (mix0_I row triedRow)) (Rg.weak (takePlan_l2 hp wR rows.toNat 0 (by omega) (by omega)) (by simp [lput1, lput2, Value.category, fi0, fi1, fi2, fi3] <;> first | rfl | exact ⟨rfl, rfl⟩) (by simp [lput1, lput2, Value.category, fi0, fi1, fi2, fi3] <;> first | rfl | exact ⟨rfl, rfl⟩))
  | succ n ih =>
    intro k hk hk2
    refine Rg.step 19 F_Mo_takePlan_18 rfl (fun _ => rfl) ?_
    refine Rg.step 20 F_Mo_takePlan_19 rfl (fun _ => rfl) ?_
    refine Rg.getf 23 F_Mo_takePlan_20 rfl rF_26_242 (gM hp) rfl ?_
    refine Rg.icgeI 44 26 F_Mo_takePlan_23 rfl rfl (by omega) (by omega) (fun h23 => by omega) (fun _ => ?_)
    refine Rg.step 27 F_Mo_takePlan_26 rfl (fun _ => rfl) ?_
    refine Rg.getf 30 F_Mo_takePlan_27 rfl rF_26_111 (gM hp) rfl ?_
    refine Rg.step 31 F_Mo_takePlan_30 rfl (fun _ => rfl) ?_
    refine Rg.step 32 F_Mo_takePlan_31 rfl (fun _ => rfl) ?_
    refine Rg.getf 35 F_Mo_takePlan_32 rfl rF_26_93 (gM hp) rfl ?_
    refine Rg.step 36 F_Mo_takePlan_35 rfl (fun _ => rfl) ?_
    refine Rg.ild 37 F_Mo_takePlan_36 rfl (gR_stepAction hp) (by omega) (by decide) ?_
    refine Rg.ist 38 F_Mo_takePlan_37 rfl (gR_triedAction hp) (by decide) (sR_triedAction hp) (by omega) (by decide) ?_
    refine Rg.inc 41 F_Mo_takePlan_38 rfl rfl (by decide) ?_
    refine Rg.step 18 F_Mo_takePlan_41 rfl (fun _ => rfl) ?_
    rw [mix_up]
    exact Rg.weak (ih (k + 1) (by omega) (by omega)) (by simp [lput1, lput2, Value.category, fi0, fi1, fi2, fi3] <;> first | rfl | exact ⟨rfl, rfl⟩) (by simp [lput1, lput2, Value.category, fi0, fi1, fi2, fi3] <;> first | rfl | exact ⟨rfl, rfl⟩)
theorem c_Mo_takePlan {d : Nat}  (hp : pre.length = 168) (wS : 0 ≤ steps ∧ steps ≤ 12) (wR : 0 ≤ rows ∧ rows ≤ 24) : Cg false d m_Mo_takePlan [.ref 168] (MR pre code amountN amountD momentN momentD epsilonN epsilonD firstFacts firstN firstD wishes wants wantN wantD actions needs needTime needOf needHow needN needD changes changeTime changeOf changeHow changeN changeD lastOf lastN lastD steps stepAction startN startD lengthN lengthD rows row tried triedAction triedRows triedRow times unit facts numN numD oldFacts oldN oldD point judged fault faultPoint toldFacts toldN toldD outN outD pointN pointD gone now leastN leastD greatestN greatestD events post) (.inl none) (MR pre code amountN amountD momentN momentD epsilonN epsilonD firstFacts firstN firstD wishes wants wantN wantD actions needs needTime needOf needHow needN needD changes changeTime changeOf changeHow changeN changeD lastOf lastN lastD steps stepAction startN startD lengthN lengthD rows row steps (mix steps stepAction triedAction) rows (mix rows row triedRow) times unit facts numN numD oldFacts oldN oldD point judged fault faultPoint toldFacts toldN toldD outN outD pointN pointD gone now leastN leastD greatestN greatestD events post) := by
  refine Cg.of (Nat.le_of_ble_eq_true rfl) ?_
  change Rg _ _ _ _ 0 [(0, .ref 168)] [] _ _ _
  refine Rg.step 1 F_Mo_takePlan_0 rfl (fun _ => rfl) ?_
  refine Rg.step 2 F_Mo_takePlan_1 rfl (fun _ => rfl) ?_
  refine Rg.getf 5 F_Mo_takePlan_2 rfl rF_26_242 (gM hp) rfl ?_
  refine Rg.put 8 F_Mo_takePlan_5 rfl rF_26_280 (gM hp) (by decide) (Nat.le_of_ble_eq_true rfl) (Or.inl rfl) rfl (sM_tried hp) ?_
  refine Rg.step 9 F_Mo_takePlan_8 rfl (fun _ => rfl) ?_
  refine Rg.step 10 F_Mo_takePlan_9 rfl (fun _ => rfl) ?_
  refine Rg.getf 13 F_Mo_takePlan_10 rfl rF_26_245 (gM hp) rfl ?_
  refine Rg.put 16 F_Mo_takePlan_13 rfl rF_26_283 (gM hp) (by decide) (Nat.le_of_ble_eq_true rfl) (Or.inl rfl) rfl (sM_triedRows hp) ?_
  refine Rg.step 17 F_Mo_takePlan_16 rfl (fun _ => rfl) ?_
  refine Rg.step 18 F_Mo_takePlan_17 rfl (fun _ => rfl) ?_
  exact Rg.frM (kR_triedAction (mix0_I stepAction triedAction)) (Rg.weak (takePlan_l1 hp wS wR steps.toNat 0 (by omega) (by omega)) (by simp [lput1, lput2, Value.category, fi0, fi1, fi2, fi3] <;> first | rfl | exact ⟨rfl, rfl⟩) (by simp [lput1, lput2, Value.category, fi0, fi1, fi2, fi3] <;> first | rfl | exact ⟨rfl, rfl⟩))
theorem takeTimes_l {d n0 : Nat} (hp : pre.length = 168) (wS : 0 ≤ steps ∧ steps ≤ 12) (wP : WPL steps startN startD lengthN lengthD) : ∀ (n : Nat) (k x y : Int), k + n = steps → 0 ≤ k → ∃ x1 y1, Rg false (d + 3) m_Mo_takeTimes n0 2 [(1, .int (iI k)), (0, .ref 168)] [] (MR pre code amountN amountD momentN momentD epsilonN epsilonD firstFacts firstN firstD wishes wants wantN wantD actions needs needTime needOf needHow needN needD changes changeTime changeOf changeHow changeN changeD lastOf lastN lastD steps stepAction startN startD lengthN lengthD rows row tried triedAction triedRows triedRow times unit facts numN numD oldFacts oldN oldD point judged fault faultPoint toldFacts toldN toldD x y (mix (2 * k) (ptN startN startD lengthN lengthD) pointN) (mix (2 * k) (ptD startN startD lengthN lengthD) pointD) gone now leastN leastD greatestN greatestD events post) (.inl none) (MR pre code amountN amountD momentN momentD epsilonN epsilonD firstFacts firstN firstD wishes wants wantN wantD actions needs needTime needOf needHow needN needD changes changeTime changeOf changeHow changeN changeD lastOf lastN lastD steps stepAction startN startD lengthN lengthD rows row tried triedAction triedRows triedRow times unit facts numN numD oldFacts oldN oldD point judged fault faultPoint toldFacts toldN toldD x1 y1 (mix (2 * steps) (ptN startN startD lengthN lengthD) pointN) (mix (2 * steps) (ptD startN startD lengthN lengthD) pointD) gone now leastN leastD greatestN greatestD events post) := by
  intro n
  induction n with
  | zero =>
    intro k x y hk hk2
    have hk : k = steps := by omega
    subst hk
    refine ⟨x, y, ?_⟩
    refine Rg.step 3 F_Mo_takeTimes_2 rfl (fun _ => rfl) ?_
    refine Rg.step 4 F_Mo_takeTimes_3 rfl (fun _ => rfl) ?_
    refine Rg.getf 7 F_Mo_takeTimes_4 rfl rF_26_242 (gM hp) rfl ?_
    refine Rg.icgeI 116 10 F_Mo_takeTimes_7 rfl rfl (by omega) (by omega) (fun _ => ?_) (fun h7 => by omega)
    exact Rg.retV F_Mo_takeTimes_116 rfl rfl
  | succ n ih =>
    intro k x y hk hk2
    obtain ⟨⟨a1, a2, a3, a4, a5, a6, a7, a8⟩, -⟩ := wP k hk2 (by omega)
    have e1 : startN k = (ptN startN startD lengthN lengthD) (2 * k) := by unfold ptN; rw [if_pos (by omega), show 2 * k / 2 = k by omega]
    have e2 : startD k = (ptD startN startD lengthN lengthD) (2 * k) := by unfold ptD; rw [if_pos (by omega), show 2 * k / 2 = k by omega]
    have e3 : nN (startN k * lengthD k + lengthN k * startD k) (startD k * lengthD k) = ptN startN startD lengthN lengthD (2 * k + 1) := by unfold ptN; rw [if_neg (by omega), show (2 * k + 1) / 2 = k by omega]
    have e4 : nD (startN k * lengthD k + lengthN k * startD k) (startD k * lengthD k) = ptD startN startD lengthN lengthD (2 * k + 1) := by unfold ptD; rw [if_neg (by omega), show (2 * k + 1) / 2 = k by omega]
    have u1 : up1 (mix (2 * k) (ptN startN startD lengthN lengthD) pointN) (2 * k) (startN k) = mix (2 * k + 1) (ptN startN startD lengthN lengthD) pointN := by rw [e1]; exact mix_up _ _ _
    have u2 : up1 (mix (2 * k) (ptD startN startD lengthN lengthD) pointD) (2 * k) (startD k) = mix (2 * k + 1) (ptD startN startD lengthN lengthD) pointD := by rw [e2]; exact mix_up _ _ _
    have u3 : up1 (mix (2 * k + 1) (ptN startN startD lengthN lengthD) pointN) (2 * k + 1) (nN (startN k * lengthD k + lengthN k * startD k) (startD k * lengthD k)) = mix (2 * k + 1 + 1) (ptN startN startD lengthN lengthD) pointN := by rw [e3]; exact mix_up _ _ _
    have u4 : up1 (mix (2 * k + 1) (ptD startN startD lengthN lengthD) pointD) (2 * k + 1) (nD (startN k * lengthD k + lengthN k * startD k) (startD k * lengthD k)) = mix (2 * k + 1 + 1) (ptD startN startD lengthN lengthD) pointD := by rw [e4]; exact mix_up _ _ _
    have m1 := mul_bd (a := startN k) (b := lengthD k) (A := 100000000000) (B := 1000000) (by omega) (by omega)
    have m2 := mul_bd (a := lengthN k) (b := startD k) (A := 100000000000) (B := 1000000) (by omega) (by omega)
    have m3 := mul_ps (a := startD k) (b := lengthD k) (A := 1000000) (B := 1000000) (by omega) (by omega)
    obtain ⟨x1, y1, hg⟩ := ih (k + 1) (nN (startN k * lengthD k + lengthN k * startD k) (startD k * lengthD k)) (nD (startN k * lengthD k + lengthN k * startD k) (startD k * lengthD k)) (by omega) (by omega)
    refine ⟨x1, y1, ?_⟩
    refine Rg.step 3 F_Mo_takeTimes_2 rfl (fun _ => rfl) ?_
    refine Rg.step 4 F_Mo_takeTimes_3 rfl (fun _ => rfl) ?_
    refine Rg.getf 7 F_Mo_takeTimes_4 rfl rF_26_242 (gM hp) rfl ?_
    refine Rg.icgeI 116 10 F_Mo_takeTimes_7 rfl rfl (by omega) (by omega) (fun h7 => by omega) (fun _ => ?_)
    refine Rg.step 11 F_Mo_takeTimes_10 rfl (fun _ => rfl) ?_
    refine Rg.getf 14 F_Mo_takeTimes_11 rfl rF_26_151 (gM hp) rfl ?_
    refine Rg.step 15 F_Mo_takeTimes_14 rfl (fun _ => rfl) ?_
    refine Rg.step 16 F_Mo_takeTimes_15 rfl (fun _ => rfl) ?_
    refine Rg.mulI 17 F_Mo_takeTimes_16 rfl ?_
    refine Rg.step 18 F_Mo_takeTimes_17 rfl (fun _ => rfl) ?_
    refine Rg.getf 21 F_Mo_takeTimes_18 rfl rF_26_96 (gM hp) rfl ?_
    refine Rg.step 22 F_Mo_takeTimes_21 rfl (fun _ => rfl) ?_
    refine Rg.lld 23 F_Mo_takeTimes_22 rfl (gR_startN hp) (by omega) (by decide) ?_
    refine Rg.lst 24 F_Mo_takeTimes_23 rfl (gR_pointN hp) (by decide) (sR_pointN hp) (by omega) (by decide) ?_
    rw [u1]
    refine Rg.step 25 F_Mo_takeTimes_24 rfl (fun _ => rfl) ?_
    refine Rg.getf 28 F_Mo_takeTimes_25 rfl rF_26_154 (gM hp) rfl ?_
    refine Rg.step 29 F_Mo_takeTimes_28 rfl (fun _ => rfl) ?_
    refine Rg.step 30 F_Mo_takeTimes_29 rfl (fun _ => rfl) ?_
    refine Rg.mulI 31 F_Mo_takeTimes_30 rfl ?_
    refine Rg.step 32 F_Mo_takeTimes_31 rfl (fun _ => rfl) ?_
    refine Rg.getf 35 F_Mo_takeTimes_32 rfl rF_26_99 (gM hp) rfl ?_
    refine Rg.step 36 F_Mo_takeTimes_35 rfl (fun _ => rfl) ?_
    refine Rg.lld 37 F_Mo_takeTimes_36 rfl (gR_startD hp) (by omega) (by decide) ?_
    refine Rg.lst 38 F_Mo_takeTimes_37 rfl (gR_pointD hp) (by decide) (sR_pointD hp) (by omega) (by decide) ?_
    rw [u2]
    refine Rg.step 39 F_Mo_takeTimes_38 rfl (fun _ => rfl) ?_
    refine Rg.step 40 F_Mo_takeTimes_39 rfl (fun _ => rfl) ?_
    refine Rg.getf 43 F_Mo_takeTimes_40 rfl rF_26_96 (gM hp) rfl ?_
    refine Rg.step 44 F_Mo_takeTimes_43 rfl (fun _ => rfl) ?_
    refine Rg.lld 45 F_Mo_takeTimes_44 rfl (gR_startN hp) (by omega) (by decide) ?_
    refine Rg.step 46 F_Mo_takeTimes_45 rfl (fun _ => rfl) ?_
    refine Rg.getf 49 F_Mo_takeTimes_46 rfl rF_26_105 (gM hp) rfl ?_
    refine Rg.step 50 F_Mo_takeTimes_49 rfl (fun _ => rfl) ?_
    refine Rg.lld 51 F_Mo_takeTimes_50 rfl (gR_lengthD hp) (by omega) (by decide) ?_
    refine Rg.mulL 52 F_Mo_takeTimes_51 rfl ?_
    refine Rg.step 53 F_Mo_takeTimes_52 rfl (fun _ => rfl) ?_
    refine Rg.getf 56 F_Mo_takeTimes_53 rfl rF_26_102 (gM hp) rfl ?_
    refine Rg.step 57 F_Mo_takeTimes_56 rfl (fun _ => rfl) ?_
    refine Rg.lld 58 F_Mo_takeTimes_57 rfl (gR_lengthN hp) (by omega) (by decide) ?_
    refine Rg.step 59 F_Mo_takeTimes_58 rfl (fun _ => rfl) ?_
    refine Rg.getf 62 F_Mo_takeTimes_59 rfl rF_26_99 (gM hp) rfl ?_
    refine Rg.step 63 F_Mo_takeTimes_62 rfl (fun _ => rfl) ?_
    refine Rg.lld 64 F_Mo_takeTimes_63 rfl (gR_startD hp) (by omega) (by decide) ?_
    refine Rg.mulL 65 F_Mo_takeTimes_64 rfl ?_
    refine Rg.addL 66 F_Mo_takeTimes_65 rfl ?_
    refine Rg.step 67 F_Mo_takeTimes_66 rfl (fun _ => rfl) ?_
    refine Rg.getf 70 F_Mo_takeTimes_67 rfl rF_26_99 (gM hp) rfl ?_
    refine Rg.step 71 F_Mo_takeTimes_70 rfl (fun _ => rfl) ?_
    refine Rg.lld 72 F_Mo_takeTimes_71 rfl (gR_startD hp) (by omega) (by decide) ?_
    refine Rg.step 73 F_Mo_takeTimes_72 rfl (fun _ => rfl) ?_
    refine Rg.getf 76 F_Mo_takeTimes_73 rfl rF_26_105 (gM hp) rfl ?_
    refine Rg.step 77 F_Mo_takeTimes_76 rfl (fun _ => rfl) ?_
    refine Rg.lld 78 F_Mo_takeTimes_77 rfl (gR_lengthD hp) (by omega) (by decide) ?_
    refine Rg.mulL 79 F_Mo_takeTimes_78 rfl ?_
    refine Rg.call 82 F_Mo_takeTimes_79 rfl (one_V rM_26_208 (by decide) (by simp) rfl rfl (gM hp) rfl) (Nat.le_of_ble_eq_true rfl) (c_Mo_out hp (by omega) (by omega) (by omega)) ?_
    refine Rg.step 83 F_Mo_takeTimes_82 rfl (fun _ => rfl) ?_
    refine Rg.getf 86 F_Mo_takeTimes_83 rfl rF_26_151 (gM hp) rfl ?_
    refine Rg.step 87 F_Mo_takeTimes_86 rfl (fun _ => rfl) ?_
    refine Rg.step 88 F_Mo_takeTimes_87 rfl (fun _ => rfl) ?_
    refine Rg.mulI 89 F_Mo_takeTimes_88 rfl ?_
    refine Rg.step 90 F_Mo_takeTimes_89 rfl (fun _ => rfl) ?_
    refine Rg.addI 91 F_Mo_takeTimes_90 rfl ?_
    refine Rg.step 92 F_Mo_takeTimes_91 rfl (fun _ => rfl) ?_
    refine Rg.getf 95 F_Mo_takeTimes_92 rfl rF_26_189 (gM hp) rfl ?_
    refine Rg.lst 96 F_Mo_takeTimes_95 rfl (gR_pointN hp) (by decide) (sR_pointN hp) (by omega) (by decide) ?_
    rw [u3]
    refine Rg.step 97 F_Mo_takeTimes_96 rfl (fun _ => rfl) ?_
    refine Rg.getf 100 F_Mo_takeTimes_97 rfl rF_26_154 (gM hp) rfl ?_
    refine Rg.step 101 F_Mo_takeTimes_100 rfl (fun _ => rfl) ?_
    refine Rg.step 102 F_Mo_takeTimes_101 rfl (fun _ => rfl) ?_
    refine Rg.mulI 103 F_Mo_takeTimes_102 rfl ?_
    refine Rg.step 104 F_Mo_takeTimes_103 rfl (fun _ => rfl) ?_
    refine Rg.addI 105 F_Mo_takeTimes_104 rfl ?_
    refine Rg.step 106 F_Mo_takeTimes_105 rfl (fun _ => rfl) ?_
    refine Rg.getf 109 F_Mo_takeTimes_106 rfl rF_26_192 (gM hp) rfl ?_
    refine Rg.lst 110 F_Mo_takeTimes_109 rfl (gR_pointD hp) (by decide) (sR_pointD hp) (by omega) (by decide) ?_
    rw [u4]
    refine Rg.inc 113 F_Mo_takeTimes_110 rfl rfl (by decide) ?_
    refine Rg.step 2 F_Mo_takeTimes_113 rfl (fun _ => rfl) ?_
    rw [show 2 * (k + 1) = 2 * k + 1 + 1 by omega] at hg
    exact Rg.weak hg (by simp [lput1, lput2, Value.category, fi0, fi1, fi2, fi3] <;> first | rfl | exact ⟨rfl, rfl⟩) (by simp [lput1, lput2, Value.category, fi0, fi1, fi2, fi3] <;> first | rfl | exact ⟨rfl, rfl⟩)
theorem c_Mo_takeTimes {d : Nat} (hp : pre.length = 168) (wS : 0 ≤ steps ∧ steps ≤ 12) (wP : WPL steps startN startD lengthN lengthD) : ∃ x1 y1, Cg false (d + 3) m_Mo_takeTimes [.ref 168] (MR pre code amountN amountD momentN momentD epsilonN epsilonD firstFacts firstN firstD wishes wants wantN wantD actions needs needTime needOf needHow needN needD changes changeTime changeOf changeHow changeN changeD lastOf lastN lastD steps stepAction startN startD lengthN lengthD rows row tried triedAction triedRows triedRow times unit facts numN numD oldFacts oldN oldD point judged fault faultPoint toldFacts toldN toldD outN outD pointN pointD gone now leastN leastD greatestN greatestD events post) (.inl none) (MR pre code amountN amountD momentN momentD epsilonN epsilonD firstFacts firstN firstD wishes wants wantN wantD actions needs needTime needOf needHow needN needD changes changeTime changeOf changeHow changeN changeD lastOf lastN lastD steps stepAction startN startD lengthN lengthD rows row tried triedAction triedRows triedRow times unit facts numN numD oldFacts oldN oldD point judged fault faultPoint toldFacts toldN toldD x1 y1 (mix (2 * steps) (ptN startN startD lengthN lengthD) pointN) (mix (2 * steps) (ptD startN startD lengthN lengthD) pointD) gone now leastN leastD greatestN greatestD events post) := by
  obtain ⟨x1, y1, hg⟩ := takeTimes_l (d := d) (n0 := (MR pre code amountN amountD momentN momentD epsilonN epsilonD firstFacts firstN firstD wishes wants wantN wantD actions needs needTime needOf needHow needN needD changes changeTime changeOf changeHow changeN changeD lastOf lastN lastD steps stepAction startN startD lengthN lengthD rows row tried triedAction triedRows triedRow times unit facts numN numD oldFacts oldN oldD point judged fault faultPoint toldFacts toldN toldD outN outD pointN pointD gone now leastN leastD greatestN greatestD events post).length) (pre := pre) (post := post) hp wS wP steps.toNat 0 outN outD (by omega) (by omega)
  refine ⟨x1, y1, ?_⟩
  refine Cg.of (Nat.le_of_ble_eq_true rfl) ?_
  change Rg _ _ _ _ 0 [(0, .ref 168)] [] _ _ _
  refine Rg.step 1 F_Mo_takeTimes_0 rfl (fun _ => rfl) ?_
  refine Rg.step 2 F_Mo_takeTimes_1 rfl (fun _ => rfl) ?_
  exact Rg.frM ((kR_pointN (mix0_L (ptN startN startD lengthN lengthD) pointN)).trans (kR_pointD (mix0_L (ptD startN startD lengthN lengthD) pointD))) (Rg.weak hg (by simp [lput1, lput2, Value.category, fi0, fi1, fi2, fi3] <;> first | rfl | exact ⟨rfl, rfl⟩) (by simp [lput1, lput2, Value.category, fi0, fi1, fi2, fi3] <;> first | rfl | exact ⟨rfl, rfl⟩))
theorem c_Mo_orderOf {d : Nat}  (hp : pre.length = 168) (wS : 0 ≤ steps ∧ steps ≤ 12) (wQ : ∀ p, 0 ≤ p → p < 2 * steps → 0 ≤ pointN p ∧ pointN p ≤ 100000000000 ∧ 0 < pointD p ∧ pointD p ≤ 1000000) {p q : Int} (h1 : 0 ≤ p ∧ p < 2 * steps) (h2 : 0 ≤ q ∧ q < 2 * steps) : Cg true (d + 2) m_Mo_orderOf [.ref 168, .int (iI p), .int (iI q)] (MR pre code amountN amountD momentN momentD epsilonN epsilonD firstFacts firstN firstD wishes wants wantN wantD actions needs needTime needOf needHow needN needD changes changeTime changeOf changeHow changeN changeD lastOf lastN lastD steps stepAction startN startD lengthN lengthD rows row tried triedAction triedRows triedRow times unit facts numN numD oldFacts oldN oldD point judged fault faultPoint toldFacts toldN toldD outN outD pointN pointD gone now leastN leastD greatestN greatestD events post) (.inl (some (.int (iI (cmpF (pointN p) (pointD p) (pointN q) (pointD q)))))) (MR pre code amountN amountD momentN momentD epsilonN epsilonD firstFacts firstN firstD wishes wants wantN wantD actions needs needTime needOf needHow needN needD changes changeTime changeOf changeHow changeN changeD lastOf lastN lastD steps stepAction startN startD lengthN lengthD rows row tried triedAction triedRows triedRow times unit facts numN numD oldFacts oldN oldD point judged fault faultPoint toldFacts toldN toldD outN outD pointN pointD gone now leastN leastD greatestN greatestD events post) := by
  have c1 := wQ p h1.1 h1.2
  have c2 := wQ q h2.1 h2.2
  refine Cg.of (Nat.le_of_ble_eq_true rfl) ?_
  change Rg _ _ _ _ 0 [(0, .ref 168), (1, .int (iI p)), (2, .int (iI q))] [] _ _ _
  refine Rg.step 1 F_Mo_orderOf_0 rfl (fun _ => rfl) ?_
  refine Rg.getf 4 F_Mo_orderOf_1 rfl rF_26_151 (gM hp) rfl ?_
  refine Rg.step 5 F_Mo_orderOf_4 rfl (fun _ => rfl) ?_
  refine Rg.lld 6 F_Mo_orderOf_5 rfl (gR_pointN hp) (by omega) (by decide) ?_
  refine Rg.step 7 F_Mo_orderOf_6 rfl (fun _ => rfl) ?_
  refine Rg.getf 10 F_Mo_orderOf_7 rfl rF_26_154 (gM hp) rfl ?_
  refine Rg.step 11 F_Mo_orderOf_10 rfl (fun _ => rfl) ?_
  refine Rg.lld 12 F_Mo_orderOf_11 rfl (gR_pointD hp) (by omega) (by decide) ?_
  refine Rg.step 13 F_Mo_orderOf_12 rfl (fun _ => rfl) ?_
  refine Rg.getf 16 F_Mo_orderOf_13 rfl rF_26_151 (gM hp) rfl ?_
  refine Rg.step 17 F_Mo_orderOf_16 rfl (fun _ => rfl) ?_
  refine Rg.lld 18 F_Mo_orderOf_17 rfl (gR_pointN hp) (by omega) (by decide) ?_
  refine Rg.step 19 F_Mo_orderOf_18 rfl (fun _ => rfl) ?_
  refine Rg.getf 22 F_Mo_orderOf_19 rfl rF_26_154 (gM hp) rfl ?_
  refine Rg.step 23 F_Mo_orderOf_22 rfl (fun _ => rfl) ?_
  refine Rg.lld 24 F_Mo_orderOf_23 rfl (gR_pointD hp) (by omega) (by decide) ?_
  refine Rg.call 27 F_Mo_orderOf_24 rfl (one_S (by decide +kernel) rM_26_264 (by decide) (by simp) rfl rfl) (Nat.le_of_ble_eq_true rfl) (Cg.any (c_Mo_order (by omega) (by omega) (by omega) (by omega) (by omega) (by omega))) ?_
  exact Rg.retI F_Mo_orderOf_27 rfl rfl rfl
/-- of the points that are left, this one has the earliest time -/
def tfst (steps : Int) (pointN pointD : Int → Int) (gone : Int → Prop) (p : Int) : Prop := ¬ gone p ∧ ∀ q, 0 ≤ q → q < 2 * steps → ¬ gone q → leF (pointN p) (pointD p) (pointN q) (pointD q)
theorem mark_l2 {d n0 : Nat} (hp : pre.length = 168) (wS : 0 ≤ steps ∧ steps ≤ 12) (wQ : ∀ p, 0 ≤ p → p < 2 * steps → 0 ≤ pointN p ∧ pointN p ≤ 100000000000 ∧ 0 < pointD p ∧ pointD p ≤ 1000000) {b : Int} (hb : ((b = -1 ∧ ∀ q, 0 ≤ q → q < 2 * steps → gone q) ∨ (0 ≤ b ∧ b < 2 * steps ∧ ¬ gone b ∧ ∀ q, 0 ≤ q → q < 2 * steps → ¬ gone q → leF (pointN b) (pointD b) (pointN q) (pointD q)))) : ∀ (n : Nat) (k : Int), k + n = 2 * steps → 0 ≤ k → Rg false (d + 3) m_Mo_mark n0 46 [(2, .int (iI k)), (1, .int (iI b)), (0, .ref 168)] [] (MR pre code amountN amountD momentN momentD epsilonN epsilonD firstFacts firstN firstD wishes wants wantN wantD actions needs needTime needOf needHow needN needD changes changeTime changeOf changeHow changeN changeD lastOf lastN lastD steps stepAction startN startD lengthN lengthD rows row tried triedAction triedRows triedRow times unit facts numN numD oldFacts oldN oldD point judged fault faultPoint toldFacts toldN toldD outN outD pointN pointD gone (mix k (fun p => tfst steps pointN pointD gone p) now) leastN leastD greatestN greatestD events post) (.inl (some (.int (bP (∃ p, 0 ≤ p ∧ p < 2 * steps ∧ ¬ gone p))))) (MR pre code amountN amountD momentN momentD epsilonN epsilonD firstFacts firstN firstD wishes wants wantN wantD actions needs needTime needOf needHow needN needD changes changeTime changeOf changeHow changeN changeD lastOf lastN lastD steps stepAction startN startD lengthN lengthD rows row tried triedAction triedRows triedRow times unit facts numN numD oldFacts oldN oldD point judged fault faultPoint toldFacts toldN toldD outN outD pointN pointD gone (mix (2 * steps) (fun p => tfst steps pointN pointD gone p) now) leastN leastD greatestN greatestD events post) := by
  intro n
  induction n with
  | zero =>
    intro k hk hk2
    have hk : k = 2 * steps := by omega
    subst hk
    refine Rg.step 47 F_Mo_mark_46 rfl (fun _ => rfl) ?_
    refine Rg.step 48 F_Mo_mark_47 rfl (fun _ => rfl) ?_
    refine Rg.step 49 F_Mo_mark_48 rfl (fun _ => rfl) ?_
    refine Rg.getf 52 F_Mo_mark_49 rfl rF_26_242 (gM hp) rfl ?_
    refine Rg.mulI 53 F_Mo_mark_52 rfl ?_
    refine Rg.icgeI 95 56 F_Mo_mark_53 rfl rfl (by omega) (by omega) (fun _ => ?_) (fun h53 => by omega)
    refine Rg.step 96 F_Mo_mark_95 rfl (fun _ => rfl) ?_
    refine Rg.ifltI 103 99 F_Mo_mark_96 rfl rfl (by omega) (fun h96 => ?_) (fun h96 => ?_)
    · refine Rg.step 104 F_Mo_mark_103 rfl (fun _ => rfl) ?_
      exact Rg.ret0 F_Mo_mark_104 rfl (fun ⟨p, z1, z2, z3⟩ => hb.elim (fun y => z3 (y.2 p z1 z2)) (fun y => absurd y.1 (by omega))) rfl
    · refine Rg.step 100 F_Mo_mark_99 rfl (fun _ => rfl) ?_
      refine Rg.step 104 F_Mo_mark_100 rfl (fun _ => rfl) ?_
      exact Rg.ret1 F_Mo_mark_104 rfl (hb.elim (fun z => absurd z.1 (by omega)) (fun z => ⟨b, by omega, by omega, z.2.2.1⟩)) rfl
  | succ n ih =>
    intro k hk hk2
    have f0 := cmpF_b (pointN k) (pointD k) (pointN b) (pointD b)
    refine Rg.step 47 F_Mo_mark_46 rfl (fun _ => rfl) ?_
    refine Rg.step 48 F_Mo_mark_47 rfl (fun _ => rfl) ?_
    refine Rg.step 49 F_Mo_mark_48 rfl (fun _ => rfl) ?_
    refine Rg.getf 52 F_Mo_mark_49 rfl rF_26_242 (gM hp) rfl ?_
    refine Rg.mulI 53 F_Mo_mark_52 rfl ?_
    refine Rg.icgeI 95 56 F_Mo_mark_53 rfl rfl (by omega) (by omega) (fun h53 => by omega) (fun _ => ?_)
    refine Rg.step 57 F_Mo_mark_56 rfl (fun _ => rfl) ?_
    refine Rg.getf 60 F_Mo_mark_57 rfl rF_26_160 (gM hp) rfl ?_
    refine Rg.step 61 F_Mo_mark_60 rfl (fun _ => rfl) ?_
    refine Rg.step 62 F_Mo_mark_61 rfl (fun _ => rfl) ?_
    refine Rg.ifltI 87 65 F_Mo_mark_62 rfl rfl (by omega) (fun h62 => ?_) (fun h62 => ?_)
    · refine Rg.cP0 (B := (tfst steps pointN pointD gone k)) 88 F_Mo_mark_87 rfl (fun z => hb.elim (fun y => z.1 (y.2 k hk2 (by omega))) (fun y => absurd y.1 (by omega))) ?_
      refine Rg.zst 89 F_Mo_mark_88 rfl (gR_now hp) (by decide) (sR_now hp) (by omega) (by decide) ?_
      refine Rg.inc 92 F_Mo_mark_89 rfl rfl (by decide) ?_
      refine Rg.step 46 F_Mo_mark_92 rfl (fun _ => rfl) ?_
      rw [mix_up (f := (fun p => tfst steps pointN pointD gone p))]
      exact Rg.weak (ih (k + 1) (by omega) (by omega)) (by simp [lput1, lput2, Value.category, fi0, fi1, fi2, fi3] <;> first | rfl | exact ⟨rfl, rfl⟩) (by simp [lput1, lput2, Value.category, fi0, fi1, fi2, fi3] <;> first | rfl | exact ⟨rfl, rfl⟩)
    · refine Rg.step 66 F_Mo_mark_65 rfl (fun _ => rfl) ?_
      refine Rg.getf 69 F_Mo_mark_66 rfl rF_26_157 (gM hp) rfl ?_
      refine Rg.step 70 F_Mo_mark_69 rfl (fun _ => rfl) ?_
      refine Rg.zld 71 F_Mo_mark_70 rfl (gR_gone hp) (by omega) (by decide) ?_
      refine Rg.ifneP 87 74 F_Mo_mark_71 rfl rfl (fun h71 => ?_) (fun h71 => ?_)
      · refine Rg.cP0 (B := (tfst steps pointN pointD gone k)) 88 F_Mo_mark_87 rfl (fun z => z.1 h71) ?_
        refine Rg.zst 89 F_Mo_mark_88 rfl (gR_now hp) (by decide) (sR_now hp) (by omega) (by decide) ?_
        refine Rg.inc 92 F_Mo_mark_89 rfl rfl (by decide) ?_
        refine Rg.step 46 F_Mo_mark_92 rfl (fun _ => rfl) ?_
        rw [mix_up (f := (fun p => tfst steps pointN pointD gone p))]
        exact Rg.weak (ih (k + 1) (by omega) (by omega)) (by simp [lput1, lput2, Value.category, fi0, fi1, fi2, fi3] <;> first | rfl | exact ⟨rfl, rfl⟩) (by simp [lput1, lput2, Value.category, fi0, fi1, fi2, fi3] <;> first | rfl | exact ⟨rfl, rfl⟩)
      · refine Rg.step 75 F_Mo_mark_74 rfl (fun _ => rfl) ?_
        refine Rg.step 76 F_Mo_mark_75 rfl (fun _ => rfl) ?_
        refine Rg.step 77 F_Mo_mark_76 rfl (fun _ => rfl) ?_
        refine Rg.call 80 F_Mo_mark_77 rfl (one_V rM_26_286 (by decide) (by simp) rfl rfl (gM hp) rfl) (Nat.le_of_ble_eq_true rfl) (Cg.any (c_Mo_orderOf hp wS wQ (by omega) (by omega))) ?_
        refine Rg.ifneI 87 83 F_Mo_mark_80 rfl rfl (by omega) (fun h80 => ?_) (fun h80 => ?_)
        · refine Rg.cP0 (B := (tfst steps pointN pointD gone k)) 88 F_Mo_mark_87 rfl (fun z => h80 (cmpF_eq0.mpr ⟨z.2 b (by omega) (by omega) (hb.resolve_left (fun y => absurd y.1 (by omega))).2.2.1, (hb.resolve_left (fun y => absurd y.1 (by omega))).2.2.2 k hk2 (by omega) z.1⟩)) ?_
          refine Rg.zst 89 F_Mo_mark_88 rfl (gR_now hp) (by decide) (sR_now hp) (by omega) (by decide) ?_
          refine Rg.inc 92 F_Mo_mark_89 rfl rfl (by decide) ?_
          refine Rg.step 46 F_Mo_mark_92 rfl (fun _ => rfl) ?_
          rw [mix_up (f := (fun p => tfst steps pointN pointD gone p))]
          exact Rg.weak (ih (k + 1) (by omega) (by omega)) (by simp [lput1, lput2, Value.category, fi0, fi1, fi2, fi3] <;> first | rfl | exact ⟨rfl, rfl⟩) (by simp [lput1, lput2, Value.category, fi0, fi1, fi2, fi3] <;> first | rfl | exact ⟨rfl, rfl⟩)
        · refine Rg.cP1 (B := (tfst steps pointN pointD gone k)) 84 F_Mo_mark_83 rfl (by
        have hb2 := hb.resolve_left (fun z => absurd z.1 (by omega))
        have wb := wQ b hb2.1 hb2.2.1
        have wk := wQ k hk2 (by omega)
        exact ⟨h71, fun q z1 z2 z3 => leF_trans wk.2.2.1 wb.2.2.1 (wQ q z1 z2).2.2.1 (cmpF_eq0.mp h80).1 (hb2.2.2.2 q z1 z2 z3)⟩) ?_
          refine Rg.step 88 F_Mo_mark_84 rfl (fun _ => rfl) ?_
          refine Rg.zst 89 F_Mo_mark_88 rfl (gR_now hp) (by decide) (sR_now hp) (by omega) (by decide) ?_
          refine Rg.inc 92 F_Mo_mark_89 rfl rfl (by decide) ?_
          refine Rg.step 46 F_Mo_mark_92 rfl (fun _ => rfl) ?_
          rw [mix_up (f := (fun p => tfst steps pointN pointD gone p))]
          exact Rg.weak (ih (k + 1) (by omega) (by omega)) (by simp [lput1, lput2, Value.category, fi0, fi1, fi2, fi3] <;> first | rfl | exact ⟨rfl, rfl⟩) (by simp [lput1, lput2, Value.category, fi0, fi1, fi2, fi3] <;> first | rfl | exact ⟨rfl, rfl⟩)
theorem mark_l1 {d n0 : Nat} (hp : pre.length = 168) (wS : 0 ≤ steps ∧ steps ≤ 12) (wQ : ∀ p, 0 ≤ p → p < 2 * steps → 0 ≤ pointN p ∧ pointN p ≤ 100000000000 ∧ 0 < pointD p ∧ pointD p ≤ 1000000) : ∀ (n : Nat) (k b : Int), k + n = 2 * steps → 0 ≤ k → ((b = -1 ∧ ∀ q, 0 ≤ q → q < k → gone q) ∨ (0 ≤ b ∧ b < 2 * steps ∧ ¬ gone b ∧ ∀ q, 0 ≤ q → q < k → ¬ gone q → leF (pointN b) (pointD b) (pointN q) (pointD q))) → Rg false (d + 3) m_Mo_mark n0 4 [(2, .int (iI k)), (1, .int (iI b)), (0, .ref 168)] [] (MR pre code amountN amountD momentN momentD epsilonN epsilonD firstFacts firstN firstD wishes wants wantN wantD actions needs needTime needOf needHow needN needD changes changeTime changeOf changeHow changeN changeD lastOf lastN lastD steps stepAction startN startD lengthN lengthD rows row tried triedAction triedRows triedRow times unit facts numN numD oldFacts oldN oldD point judged fault faultPoint toldFacts toldN toldD outN outD pointN pointD gone now leastN leastD greatestN greatestD events post) (.inl (some (.int (bP (∃ p, 0 ≤ p ∧ p < 2 * steps ∧ ¬ gone p))))) (MR pre code amountN amountD momentN momentD epsilonN epsilonD firstFacts firstN firstD wishes wants wantN wantD actions needs needTime needOf needHow needN needD changes changeTime changeOf changeHow changeN changeD lastOf lastN lastD steps stepAction startN startD lengthN lengthD rows row tried triedAction triedRows triedRow times unit facts numN numD oldFacts oldN oldD point judged fault faultPoint toldFacts toldN toldD outN outD pointN pointD gone (mix (2 * steps) (fun p => tfst steps pointN pointD gone p) now) leastN leastD greatestN greatestD events post) := by
  intro n
  induction n with
  | zero =>
    intro k b hk hk2 hb
    have hk : k = 2 * steps := by omega
    subst hk
    refine Rg.step 5 F_Mo_mark_4 rfl (fun _ => rfl) ?_
    refine Rg.step 6 F_Mo_mark_5 rfl (fun _ => rfl) ?_
    refine Rg.step 7 F_Mo_mark_6 rfl (fun _ => rfl) ?_
    refine Rg.getf 10 F_Mo_mark_7 rfl rF_26_242 (gM hp) rfl ?_
    refine Rg.mulI 11 F_Mo_mark_10 rfl ?_
    refine Rg.icgeI 44 14 F_Mo_mark_11 rfl rfl (by omega) (by omega) (fun _ => ?_) (fun h11 => by omega)
    refine Rg.step 45 F_Mo_mark_44 rfl (fun _ => rfl) ?_
    refine Rg.step 46 F_Mo_mark_45 rfl (fun _ => rfl) ?_
    exact Rg.frM (kR_now (mix0_Z (fun p => tfst steps pointN pointD gone p) now)) (Rg.weak (mark_l2 hp wS wQ hb (2 * steps).toNat 0 (by omega) (by omega)) (by simp [lput1, lput2, Value.category, fi0, fi1, fi2, fi3] <;> first | rfl | exact ⟨rfl, rfl⟩) (by simp [lput1, lput2, Value.category, fi0, fi1, fi2, fi3] <;> first | rfl | exact ⟨rfl, rfl⟩))
  | succ n ih =>
    intro k b hk hk2 hb
    have f0 := cmpF_b (pointN k) (pointD k) (pointN b) (pointD b)
    have key : ∀ b', ((b' = -1 ∧ ∀ q, 0 ≤ q → q < k + 1 → gone q) ∨ (0 ≤ b' ∧ b' < 2 * steps ∧ ¬ gone b' ∧ ∀ q, 0 ≤ q → q < k + 1 → ¬ gone q → leF (pointN b') (pointD b') (pointN q) (pointD q))) → Rg false (d + 3) m_Mo_mark n0 4 [(2, .int (iI (k + 1))), (1, .int (iI b')), (0, .ref 168)] [] (MR pre code amountN amountD momentN momentD epsilonN epsilonD firstFacts firstN firstD wishes wants wantN wantD actions needs needTime needOf needHow needN needD changes changeTime changeOf changeHow changeN changeD lastOf lastN lastD steps stepAction startN startD lengthN lengthD rows row tried triedAction triedRows triedRow times unit facts numN numD oldFacts oldN oldD point judged fault faultPoint toldFacts toldN toldD outN outD pointN pointD gone now leastN leastD greatestN greatestD events post) (.inl (some (.int (bP (∃ p, 0 ≤ p ∧ p < 2 * steps ∧ ¬ gone p))))) (MR pre code amountN amountD momentN momentD epsilonN epsilonD firstFacts firstN firstD wishes wants wantN wantD actions needs needTime needOf needHow needN needD changes changeTime changeOf changeHow changeN changeD lastOf lastN lastD steps stepAction startN startD lengthN lengthD rows row tried triedAction triedRows triedRow times unit facts numN numD oldFacts oldN oldD point judged fault faultPoint toldFacts toldN toldD outN outD pointN pointD gone (mix (2 * steps) (fun p => tfst steps pointN pointD gone p) now) leastN leastD greatestN greatestD events post) := fun b' hb' => ih (k + 1) b' (by omega) (by omega) hb'
    refine Rg.step 5 F_Mo_mark_4 rfl (fun _ => rfl) ?_
    refine Rg.step 6 F_Mo_mark_5 rfl (fun _ => rfl) ?_
    refine Rg.step 7 F_Mo_mark_6 rfl (fun _ => rfl) ?_
    refine Rg.getf 10 F_Mo_mark_7 rfl rF_26_242 (gM hp) rfl ?_
    refine Rg.mulI 11 F_Mo_mark_10 rfl ?_
    refine Rg.icgeI 44 14 F_Mo_mark_11 rfl rfl (by omega) (by omega) (fun h11 => by omega) (fun _ => ?_)
    refine Rg.step 15 F_Mo_mark_14 rfl (fun _ => rfl) ?_
    refine Rg.getf 18 F_Mo_mark_15 rfl rF_26_157 (gM hp) rfl ?_
    refine Rg.step 19 F_Mo_mark_18 rfl (fun _ => rfl) ?_
    refine Rg.zld 20 F_Mo_mark_19 rfl (gR_gone hp) (by omega) (by decide) ?_
    refine Rg.ifneP 38 23 F_Mo_mark_20 rfl rfl (fun h20 => ?_) (fun h20 => ?_)
    · refine Rg.inc 41 F_Mo_mark_38 rfl rfl (by decide) ?_
      refine Rg.step 4 F_Mo_mark_41 rfl (fun _ => rfl) ?_
      refine Rg.weak (key b ?_) (by simp [lput1, lput2, Value.category, fi0, fi1, fi2, fi3] <;> first | rfl | exact ⟨rfl, rfl⟩) (by simp [lput1, lput2, Value.category, fi0, fi1, fi2, fi3] <;> first | rfl | exact ⟨rfl, rfl⟩)
      rcases hb with ⟨z1, z2⟩ | ⟨z1, z2, z3, z4⟩
      · refine Or.inl ⟨z1, fun q y1 y2 => ?_⟩
        by_cases hq : q = k
        · rw [hq]; exact h20
        · exact z2 q y1 (by omega)
      · refine Or.inr ⟨z1, z2, z3, fun q y1 y2 y3 => ?_⟩
        by_cases hq : q = k
        · exact absurd (hq ▸ h20) y3
        · exact z4 q y1 (by omega) y3
    · refine Rg.step 24 F_Mo_mark_23 rfl (fun _ => rfl) ?_
      refine Rg.ifltI 36 27 F_Mo_mark_24 rfl rfl (by omega) (fun h24 => ?_) (fun h24 => ?_)
      · refine Rg.step 37 F_Mo_mark_36 rfl (fun _ => rfl) ?_
        refine Rg.step 38 F_Mo_mark_37 rfl (fun _ => rfl) ?_
        refine Rg.inc 41 F_Mo_mark_38 rfl rfl (by decide) ?_
        refine Rg.step 4 F_Mo_mark_41 rfl (fun _ => rfl) ?_
        refine Rg.weak (key k ?_) (by simp [lput1, lput2, Value.category, fi0, fi1, fi2, fi3] <;> first | rfl | exact ⟨rfl, rfl⟩) (by simp [lput1, lput2, Value.category, fi0, fi1, fi2, fi3] <;> first | rfl | exact ⟨rfl, rfl⟩)
        rcases hb with ⟨z1, z2⟩ | ⟨z1, z2, z3, z4⟩
        · refine Or.inr ⟨hk2, by omega, h20, fun q y1 y2 y3 => ?_⟩
          by_cases hq : q = k
          · rw [hq]; exact leF_refl _ _
          · exact absurd (z2 q y1 (by omega)) y3
        · omega
      · refine Rg.step 28 F_Mo_mark_27 rfl (fun _ => rfl) ?_
        refine Rg.step 29 F_Mo_mark_28 rfl (fun _ => rfl) ?_
        refine Rg.step 30 F_Mo_mark_29 rfl (fun _ => rfl) ?_
        refine Rg.call 33 F_Mo_mark_30 rfl (one_V rM_26_286 (by decide) (by simp) rfl rfl (gM hp) rfl) (Nat.le_of_ble_eq_true rfl) (Cg.any (c_Mo_orderOf hp wS wQ (by omega) (by omega))) ?_
        refine Rg.ifgeI 38 36 F_Mo_mark_33 rfl rfl (by omega) (fun h33 => ?_) (fun h33 => ?_)
        · refine Rg.inc 41 F_Mo_mark_38 rfl rfl (by decide) ?_
          refine Rg.step 4 F_Mo_mark_41 rfl (fun _ => rfl) ?_
          refine Rg.weak (key b ?_) (by simp [lput1, lput2, Value.category, fi0, fi1, fi2, fi3] <;> first | rfl | exact ⟨rfl, rfl⟩) (by simp [lput1, lput2, Value.category, fi0, fi1, fi2, fi3] <;> first | rfl | exact ⟨rfl, rfl⟩)
          rcases hb with ⟨z1, z2⟩ | ⟨z1, z2, z3, z4⟩
          · omega
          · refine Or.inr ⟨z1, z2, z3, fun q y1 y2 y3 => ?_⟩
            by_cases hq : q = k
            · rw [hq]; exact Classical.byContradiction (fun w => absurd (cmpF_lt0.mpr w) (by omega))
            · exact z4 q y1 (by omega) y3
        · refine Rg.step 37 F_Mo_mark_36 rfl (fun _ => rfl) ?_
          refine Rg.step 38 F_Mo_mark_37 rfl (fun _ => rfl) ?_
          refine Rg.inc 41 F_Mo_mark_38 rfl rfl (by decide) ?_
          refine Rg.step 4 F_Mo_mark_41 rfl (fun _ => rfl) ?_
          refine Rg.weak (key k ?_) (by simp [lput1, lput2, Value.category, fi0, fi1, fi2, fi3] <;> first | rfl | exact ⟨rfl, rfl⟩) (by simp [lput1, lput2, Value.category, fi0, fi1, fi2, fi3] <;> first | rfl | exact ⟨rfl, rfl⟩)
          rcases hb with ⟨z1, z2⟩ | ⟨z1, z2, z3, z4⟩
          · omega
          · refine Or.inr ⟨hk2, by omega, h20, fun q y1 y2 y3 => ?_⟩
            by_cases hq : q = k
            · rw [hq]; exact leF_refl _ _
            · exact leF_trans (wQ k hk2 (by omega)).2.2.1 (wQ b z1 z2).2.2.1 (wQ q y1 (by omega)).2.2.1 (cmpF_le.mp (by omega)) (z4 q y1 (by omega) y3)
theorem c_Mo_mark {d : Nat}  (hp : pre.length = 168) (wS : 0 ≤ steps ∧ steps ≤ 12) (wQ : ∀ p, 0 ≤ p → p < 2 * steps → 0 ≤ pointN p ∧ pointN p ≤ 100000000000 ∧ 0 < pointD p ∧ pointD p ≤ 1000000) : Cg false (d + 3) m_Mo_mark [.ref 168] (MR pre code amountN amountD momentN momentD epsilonN epsilonD firstFacts firstN firstD wishes wants wantN wantD actions needs needTime needOf needHow needN needD changes changeTime changeOf changeHow changeN changeD lastOf lastN lastD steps stepAction startN startD lengthN lengthD rows row tried triedAction triedRows triedRow times unit facts numN numD oldFacts oldN oldD point judged fault faultPoint toldFacts toldN toldD outN outD pointN pointD gone now leastN leastD greatestN greatestD events post) (.inl (some (.int (bP (∃ p, 0 ≤ p ∧ p < 2 * steps ∧ ¬ gone p))))) (MR pre code amountN amountD momentN momentD epsilonN epsilonD firstFacts firstN firstD wishes wants wantN wantD actions needs needTime needOf needHow needN needD changes changeTime changeOf changeHow changeN changeD lastOf lastN lastD steps stepAction startN startD lengthN lengthD rows row tried triedAction triedRows triedRow times unit facts numN numD oldFacts oldN oldD point judged fault faultPoint toldFacts toldN toldD outN outD pointN pointD gone (mix (2 * steps) (fun p => tfst steps pointN pointD gone p) now) leastN leastD greatestN greatestD events post) := by
  refine Cg.of (Nat.le_of_ble_eq_true rfl) ?_
  change Rg _ _ _ _ 0 [(0, .ref 168)] [] _ _ _
  refine Rg.step 1 F_Mo_mark_0 rfl (fun _ => rfl) ?_
  refine Rg.step 2 F_Mo_mark_1 rfl (fun _ => rfl) ?_
  refine Rg.step 3 F_Mo_mark_2 rfl (fun _ => rfl) ?_
  refine Rg.step 4 F_Mo_mark_3 rfl (fun _ => rfl) ?_
  exact Rg.weak (mark_l1 hp wS wQ (2 * steps).toNat 0 (-1) (by omega) (by omega) (Or.inl ⟨rfl, fun q z1 z2 => by omega⟩)) (by simp [lput1, lput2, Value.category, fi0, fi1, fi2, fi3] <;> first | rfl | exact ⟨rfl, rfl⟩) (by simp [lput1, lput2, Value.category, fi0, fi1, fi2, fi3] <;> first | rfl | exact ⟨rfl, rfl⟩)
end R48
