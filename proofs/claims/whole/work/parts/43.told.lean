/-! The reference: what it is told. -/
def WT (epsilonN : Int) (epsilonD : Int) (wishes : Int → Int) (wants : Int → Int) (wantN : Int → Int) (wantD : Int → Int) (actions : Int) (needs : Int → Int) (needTime : Int → Int) (needOf : Int → Int) (needHow : Int → Int) (needN : Int → Int) (needD : Int → Int) (changes : Int → Int) (changeTime : Int → Int) (changeOf : Int → Int) (changeHow : Int → Int) (changeN : Int → Int) (changeD : Int → Int) (lastOf : Int → Int) (lastN : Int → Int) (lastD : Int → Int) (firstN : Int → Int) (firstD : Int → Int) : Prop := (0 < epsilonN ∧ epsilonN ≤ 100000 ∧ 0 < epsilonD ∧ epsilonD ≤ 1000) ∧ (∀ k, -1 ≤ wishes k ∧ wishes k ≤ 1) ∧ (∀ k, -1 ≤ wants k ∧ wants k ≤ 4) ∧ (∀ k, -100000 ≤ wantN k ∧ wantN k ≤ 100000 ∧ 0 < wantD k ∧ wantD k ≤ 1000) ∧ (0 ≤ actions ∧ actions ≤ 12) ∧ (∀ k, 0 ≤ needs k ∧ needs k ≤ 8) ∧ (∀ k, 0 ≤ needTime k ∧ needTime k ≤ 2) ∧ (∀ k, 0 ≤ needOf k ∧ needOf k ≤ 15 ∧ (needHow k ≤ 9 → needOf k ≤ 7)) ∧ (∀ k, 0 ≤ needHow k ∧ needHow k ≤ 11 ∧ (needHow k ≤ 4 ∨ 10 ≤ needHow k)) ∧ (∀ k, -100000 ≤ needN k ∧ needN k ≤ 100000 ∧ 0 ≤ needD k ∧ needD k ≤ 1000) ∧ (∀ a k, 0 ≤ a → a < actions → 8 * a ≤ k → k < 8 * a + needs a → 0 < needD k) ∧ (∀ k, 0 ≤ changes k ∧ changes k ≤ 6) ∧ (∀ k, 0 ≤ changeTime k ∧ changeTime k ≤ 2) ∧ (∀ k, 0 ≤ changeOf k ∧ changeOf k ≤ 15 ∧ (changeHow k ≤ 9 → changeOf k ≤ 7)) ∧ (∀ k, 0 ≤ changeHow k ∧ changeHow k ≤ 11 ∧ (changeHow k ≤ 3 ∨ 10 ≤ changeHow k)) ∧ (∀ k, -100000 ≤ changeN k ∧ changeN k ≤ 100000 ∧ 0 ≤ changeD k ∧ changeD k ≤ 1000) ∧ (∀ a k, 0 ≤ a → a < actions → 6 * a ≤ k → k < 6 * a + changes a → 0 < changeD k) ∧ (∀ k, -2 ≤ lastOf k ∧ lastOf k ≤ 7) ∧ (∀ k, -100000 ≤ lastN k ∧ lastN k ≤ 100000 ∧ 0 ≤ lastD k ∧ lastD k ≤ 1000) ∧ (∀ k, 0 ≤ k → k < 2 * actions → ¬ lastOf k = -2 → 0 < lastD k) ∧ (∀ k, -100000 ≤ firstN k ∧ firstN k ≤ 100000 ∧ 0 < firstD k ∧ firstD k ≤ 1000)
noncomputable def fnd (A : Int → Prop) : Nat → Int → Int
  | 0, _ => -1
  | n + 1, k => @ite _ (A k) (Classical.propDecidable _) k (fnd A n (k + 1))
theorem fnd_t {A : Int → Prop} {n : Nat} {k : Int} (h : A k) : fnd A (n + 1) k = k := by unfold fnd; rw [if_pos h]
theorem fnd_f {A : Int → Prop} {n : Nat} {k : Int} (h : ¬ A k) : fnd A (n + 1) k = fnd A n (k + 1) := by rw [fnd, if_neg h]
theorem fnd_bd {A : Int → Prop} : ∀ (n : Nat) (k : Int), (fnd A n k = -1 ∧ ∀ j, k ≤ j → j < k + n → ¬ A j) ∨ (k ≤ fnd A n k ∧ fnd A n k < k + n ∧ A (fnd A n k) ∧ ∀ j, k ≤ j → j < fnd A n k → ¬ A j) := by
  intro n
  induction n with
  | zero => intro k; exact Or.inl ⟨rfl, fun j h1 h2 => by omega⟩
  | succ n ih =>
    intro k
    by_cases h : A k
    · rw [fnd_t h]
      exact Or.inr ⟨by omega, by omega, h, fun j h1 h2 => by omega⟩
    · rw [fnd_f h]
      rcases ih (k + 1) with ⟨a1, a2⟩ | ⟨a1, a2, a3, a4⟩
      · refine Or.inl ⟨a1, fun j h1 h2 => ?_⟩
        by_cases hj : j = k
        · rw [hj]; exact h
        · exact a2 j (by omega) (by omega)
      · refine Or.inr ⟨by omega, by omega, a3, fun j h1 h2 => ?_⟩
        by_cases hj : j = k
        · rw [hj]; exact h
        · exact a4 j (by omega) (by omega)
/-- the change of an action at a time, of a fact or a number -/
noncomputable def chg (changes changeTime changeHow changeOf : Int → Int) (a time : Int) (F : Prop) (of : Int) : Int := fnd (fun k => changeTime k = time ∧ (9 < changeHow k ↔ F) ∧ changeOf k = of) (changes a).toNat (6 * a)
section R43
variable {pre post mem : AM}
variable {code amountN amountD momentN momentD epsilonN epsilonD actions steps rows tried triedRows unit point judged fault faultPoint outN outD : Int}
variable {firstN firstD wishes wants wantN wantD needs needTime needOf needHow needN needD changes changeTime changeOf changeHow changeN changeD lastOf lastN lastD stepAction startN startD lengthN lengthD row triedAction triedRow times numN numD oldN oldD toldN toldD pointN pointD leastN leastD greatestN greatestD events : Int → Int}
variable {firstFacts facts oldFacts toldFacts gone now : Int → Prop}
theorem c_Mo_isFraction {d : Nat}  {p q : Int} (b_0 : -2147483648 ≤ p ∧ p < 2147483648) (b_1 : -2147483648 ≤ q ∧ q < 2147483648) : Cg true (d + 1) m_Mo_isFraction [.int (iI p), .int (iI q)] mem (.inl (some (.int (bP (-100000 ≤ p ∧ p ≤ 100000 ∧ 1 ≤ q ∧ q ≤ 1000))))) mem := by
  refine Cg.of (Nat.le_of_ble_eq_true rfl) ?_
  change Rg _ _ _ _ 0 [(0, .int (iI p)), (1, .int (iI q))] [] _ _ _
  refine Rg.step 1 F_Mo_isFraction_0 rfl (fun _ => rfl) ?_
  refine Rg.ldcI (n := -100000) 3 F_Mo_isFraction_1 rfl rK_26_198 rfl ?_
  refine Rg.ldcI (n := 100000) 5 F_Mo_isFraction_3 rfl rK_26_199 rfl ?_
  refine Rg.call 8 F_Mo_isFraction_5 rfl (one_S (by decide +kernel) rM_26_200 (by decide) (by simp) rfl rfl) (Nat.le_of_ble_eq_true rfl) (Cg.any (c_Mo_in (by omega) (by omega) (by omega))) ?_
  refine Rg.ifeqP 26 11 F_Mo_isFraction_8 rfl rfl (fun h8 => ?_) (fun h8 => ?_)
  · refine Rg.step 27 F_Mo_isFraction_26 rfl (fun _ => rfl) ?_
    exact Rg.ret0 F_Mo_isFraction_27 rfl (by omega) rfl
  · refine Rg.step 12 F_Mo_isFraction_11 rfl (fun _ => rfl) ?_
    refine Rg.step 13 F_Mo_isFraction_12 rfl (fun _ => rfl) ?_
    refine Rg.sip 16 F_Mo_isFraction_13 rfl rfl ?_
    refine Rg.call 19 F_Mo_isFraction_16 rfl (one_S (by decide +kernel) rM_26_200 (by decide) (by simp) rfl rfl) (Nat.le_of_ble_eq_true rfl) (Cg.any (c_Mo_in (by omega) (by omega) (by omega))) ?_
    refine Rg.ifeqP 26 22 F_Mo_isFraction_19 rfl rfl (fun h19 => ?_) (fun h19 => ?_)
    · refine Rg.step 27 F_Mo_isFraction_26 rfl (fun _ => rfl) ?_
      exact Rg.ret0 F_Mo_isFraction_27 rfl (by omega) rfl
    · refine Rg.step 23 F_Mo_isFraction_22 rfl (fun _ => rfl) ?_
      refine Rg.step 27 F_Mo_isFraction_23 rfl (fun _ => rfl) ?_
      exact Rg.ret1 F_Mo_isFraction_27 rfl (by omega) rfl
theorem c_Mo_isFact {d : Nat}  {f : Int} (b_0 : -2147483648 ≤ f ∧ f < 2147483648) : Cg true (d + 1) m_Mo_isFact [.int (iI f)] mem (.inl (some (.int (bP (0 ≤ f ∧ f ≤ 15))))) mem := by
  refine Cg.of (Nat.le_of_ble_eq_true rfl) ?_
  change Rg _ _ _ _ 0 [(0, .int (iI f))] [] _ _ _
  refine Rg.step 1 F_Mo_isFact_0 rfl (fun _ => rfl) ?_
  refine Rg.step 2 F_Mo_isFact_1 rfl (fun _ => rfl) ?_
  refine Rg.bip 4 F_Mo_isFact_2 rfl rfl ?_
  refine Rg.call 7 F_Mo_isFact_4 rfl (one_S (by decide +kernel) rM_26_200 (by decide) (by simp) rfl rfl) (Nat.le_of_ble_eq_true rfl) (Cg.any (c_Mo_in (by omega) (by omega) (by omega))) ?_
  exact Rg.retP F_Mo_isFact_7 rfl Iff.rfl rfl
theorem c_Mo_isNumber {d : Nat}  {f : Int} (b_0 : -2147483648 ≤ f ∧ f < 2147483648) : Cg true (d + 1) m_Mo_isNumber [.int (iI f)] mem (.inl (some (.int (bP (0 ≤ f ∧ f ≤ 7))))) mem := by
  refine Cg.of (Nat.le_of_ble_eq_true rfl) ?_
  change Rg _ _ _ _ 0 [(0, .int (iI f))] [] _ _ _
  refine Rg.step 1 F_Mo_isNumber_0 rfl (fun _ => rfl) ?_
  refine Rg.step 2 F_Mo_isNumber_1 rfl (fun _ => rfl) ?_
  refine Rg.bip 4 F_Mo_isNumber_2 rfl rfl ?_
  refine Rg.call 7 F_Mo_isNumber_4 rfl (one_S (by decide +kernel) rM_26_200 (by decide) (by simp) rfl rfl) (Nat.le_of_ble_eq_true rfl) (Cg.any (c_Mo_in (by omega) (by omega) (by omega))) ?_
  exact Rg.retP F_Mo_isNumber_7 rfl Iff.rfl rfl
theorem c_Mo_isAction {d : Nat}  (hp : pre.length = 168) {a : Int} (wA : 0 ≤ actions ∧ actions ≤ 12) (b_0 : -2147483648 ≤ a ∧ a < 2147483648) : Cg true (d + 1) m_Mo_isAction [.ref 168, .int (iI a)] (MR pre code amountN amountD momentN momentD epsilonN epsilonD firstFacts firstN firstD wishes wants wantN wantD actions needs needTime needOf needHow needN needD changes changeTime changeOf changeHow changeN changeD lastOf lastN lastD steps stepAction startN startD lengthN lengthD rows row tried triedAction triedRows triedRow times unit facts numN numD oldFacts oldN oldD point judged fault faultPoint toldFacts toldN toldD outN outD pointN pointD gone now leastN leastD greatestN greatestD events post) (.inl (some (.int (bP (0 ≤ a ∧ a ≤ actions - 1))))) (MR pre code amountN amountD momentN momentD epsilonN epsilonD firstFacts firstN firstD wishes wants wantN wantD actions needs needTime needOf needHow needN needD changes changeTime changeOf changeHow changeN changeD lastOf lastN lastD steps stepAction startN startD lengthN lengthD rows row tried triedAction triedRows triedRow times unit facts numN numD oldFacts oldN oldD point judged fault faultPoint toldFacts toldN toldD outN outD pointN pointD gone now leastN leastD greatestN greatestD events post) := by
  refine Cg.of (Nat.le_of_ble_eq_true rfl) ?_
  change Rg _ _ _ _ 0 [(0, .ref 168), (1, .int (iI a))] [] _ _ _
  refine Rg.step 1 F_Mo_isAction_0 rfl (fun _ => rfl) ?_
  refine Rg.step 2 F_Mo_isAction_1 rfl (fun _ => rfl) ?_
  refine Rg.step 3 F_Mo_isAction_2 rfl (fun _ => rfl) ?_
  refine Rg.getf 6 F_Mo_isAction_3 rfl rF_26_218 (gM hp) rfl ?_
  refine Rg.step 7 F_Mo_isAction_6 rfl (fun _ => rfl) ?_
  refine Rg.subI 8 F_Mo_isAction_7 rfl ?_
  refine Rg.call 11 F_Mo_isAction_8 rfl (one_S (by decide +kernel) rM_26_200 (by decide) (by simp) rfl rfl) (Nat.le_of_ble_eq_true rfl) (Cg.any (c_Mo_in (by omega) (by omega) (by omega))) ?_
  exact Rg.retP F_Mo_isAction_11 rfl Iff.rfl rfl
theorem c_Mo_amount {d : Nat}  (hp : pre.length = 168) {p q : Int} (b_0 : -2147483648 ≤ p ∧ p < 2147483648) (b_1 : -2147483648 ≤ q ∧ q < 2147483648) (h : -100000 ≤ p ∧ p ≤ 100000 ∧ 1 ≤ q ∧ q ≤ 1000) : Cg false (d + 3) m_Mo_amount [.ref 168, .int (iI p), .int (iI q)] (MR pre code amountN amountD momentN momentD epsilonN epsilonD firstFacts firstN firstD wishes wants wantN wantD actions needs needTime needOf needHow needN needD changes changeTime changeOf changeHow changeN changeD lastOf lastN lastD steps stepAction startN startD lengthN lengthD rows row tried triedAction triedRows triedRow times unit facts numN numD oldFacts oldN oldD point judged fault faultPoint toldFacts toldN toldD outN outD pointN pointD gone now leastN leastD greatestN greatestD events post) (.inl none) (MR pre 0 (nN p q) (nD p q) momentN momentD epsilonN epsilonD firstFacts firstN firstD wishes wants wantN wantD actions needs needTime needOf needHow needN needD changes changeTime changeOf changeHow changeN changeD lastOf lastN lastD steps stepAction startN startD lengthN lengthD rows row tried triedAction triedRows triedRow times unit facts numN numD oldFacts oldN oldD point judged fault faultPoint toldFacts toldN toldD (nN p q) (nD p q) pointN pointD gone now leastN leastD greatestN greatestD events post) := by
  refine Cg.of (Nat.le_of_ble_eq_true rfl) ?_
  change Rg _ _ _ _ 0 [(0, .ref 168), (1, .int (iI p)), (2, .int (iI q))] [] _ _ _
  refine Rg.step 1 F_Mo_amount_0 rfl (fun _ => rfl) ?_
  refine Rg.step 2 F_Mo_amount_1 rfl (fun _ => rfl) ?_
  refine Rg.step 3 F_Mo_amount_2 rfl (fun _ => rfl) ?_
  refine Rg.call 6 F_Mo_amount_3 rfl (one_S (by decide +kernel) rM_26_204 (by decide) (by simp) rfl rfl) (Nat.le_of_ble_eq_true rfl) (Cg.any (c_Mo_isFraction (by omega) (by omega))) ?_
  refine Rg.ifeqP 13 9 F_Mo_amount_6 rfl rfl (fun h6 => by omega) (fun _ => ?_)
  refine Rg.step 10 F_Mo_amount_9 rfl (fun _ => rfl) ?_
  refine Rg.step 14 F_Mo_amount_10 rfl (fun _ => rfl) ?_
  refine Rg.put 17 F_Mo_amount_14 rfl rF_26_178 (gM hp) (by decide) (Nat.le_of_ble_eq_true rfl) (Or.inl rfl) rfl (sM_code hp) ?_
  refine Rg.step 18 F_Mo_amount_17 rfl (fun _ => rfl) ?_
  refine Rg.getf 21 F_Mo_amount_18 rfl rF_26_178 (gM hp) rfl ?_
  refine Rg.ifle 25 24 F_Mo_amount_21 rfl rfl (fun _ => ?_) (fun h21 => absurd h21 (by decide))
  refine Rg.step 26 F_Mo_amount_25 rfl (fun _ => rfl) ?_
  refine Rg.step 27 F_Mo_amount_26 rfl (fun _ => rfl) ?_
  refine Rg.i2l 28 F_Mo_amount_27 rfl (by omega) ?_
  refine Rg.step 29 F_Mo_amount_28 rfl (fun _ => rfl) ?_
  refine Rg.i2l 30 F_Mo_amount_29 rfl (by omega) ?_
  refine Rg.call 33 F_Mo_amount_30 rfl (one_V rM_26_208 (by decide) (by simp) rfl rfl (gM hp) rfl) (Nat.le_of_ble_eq_true rfl) (c_Mo_out hp (by omega) (by omega) (by omega)) ?_
  refine Rg.step 34 F_Mo_amount_33 rfl (fun _ => rfl) ?_
  refine Rg.step 35 F_Mo_amount_34 rfl (fun _ => rfl) ?_
  refine Rg.getf 38 F_Mo_amount_35 rfl rF_26_189 (gM hp) rfl ?_
  refine Rg.put 41 F_Mo_amount_38 rfl rF_26_212 (gM hp) (by decide) (Nat.le_of_ble_eq_true rfl) (Or.inl rfl) rfl (sM_amountN hp) ?_
  refine Rg.step 42 F_Mo_amount_41 rfl (fun _ => rfl) ?_
  refine Rg.step 43 F_Mo_amount_42 rfl (fun _ => rfl) ?_
  refine Rg.getf 46 F_Mo_amount_43 rfl rF_26_192 (gM hp) rfl ?_
  refine Rg.put 49 F_Mo_amount_46 rfl rF_26_7 (gM hp) (by decide) (Nat.le_of_ble_eq_true rfl) (Or.inl rfl) rfl (sM_amountD hp) ?_
  exact Rg.retV F_Mo_amount_49 rfl rfl
theorem c_Mo_amount1 {d : Nat}  (hp : pre.length = 168) {p q : Int} (b_0 : -2147483648 ≤ p ∧ p < 2147483648) (b_1 : -2147483648 ≤ q ∧ q < 2147483648) (h : ¬ (-100000 ≤ p ∧ p ≤ 100000 ∧ 1 ≤ q ∧ q ≤ 1000)) : Cg false (d + 3) m_Mo_amount [.ref 168, .int (iI p), .int (iI q)] (MR pre code amountN amountD momentN momentD epsilonN epsilonD firstFacts firstN firstD wishes wants wantN wantD actions needs needTime needOf needHow needN needD changes changeTime changeOf changeHow changeN changeD lastOf lastN lastD steps stepAction startN startD lengthN lengthD rows row tried triedAction triedRows triedRow times unit facts numN numD oldFacts oldN oldD point judged fault faultPoint toldFacts toldN toldD outN outD pointN pointD gone now leastN leastD greatestN greatestD events post) (.inl none) (MR pre 1 amountN amountD momentN momentD epsilonN epsilonD firstFacts firstN firstD wishes wants wantN wantD actions needs needTime needOf needHow needN needD changes changeTime changeOf changeHow changeN changeD lastOf lastN lastD steps stepAction startN startD lengthN lengthD rows row tried triedAction triedRows triedRow times unit facts numN numD oldFacts oldN oldD point judged fault faultPoint toldFacts toldN toldD outN outD pointN pointD gone now leastN leastD greatestN greatestD events post) := by
  refine Cg.of (Nat.le_of_ble_eq_true rfl) ?_
  change Rg _ _ _ _ 0 [(0, .ref 168), (1, .int (iI p)), (2, .int (iI q))] [] _ _ _
  refine Rg.step 1 F_Mo_amount_0 rfl (fun _ => rfl) ?_
  refine Rg.step 2 F_Mo_amount_1 rfl (fun _ => rfl) ?_
  refine Rg.step 3 F_Mo_amount_2 rfl (fun _ => rfl) ?_
  refine Rg.call 6 F_Mo_amount_3 rfl (one_S (by decide +kernel) rM_26_204 (by decide) (by simp) rfl rfl) (Nat.le_of_ble_eq_true rfl) (Cg.any (c_Mo_isFraction (by omega) (by omega))) ?_
  refine Rg.ifeqP 13 9 F_Mo_amount_6 rfl rfl (fun _ => ?_) (fun h6 => by omega)
  refine Rg.step 14 F_Mo_amount_13 rfl (fun _ => rfl) ?_
  refine Rg.put 17 F_Mo_amount_14 rfl rF_26_178 (gM hp) (by decide) (Nat.le_of_ble_eq_true rfl) (Or.inl rfl) rfl (sM_code hp) ?_
  refine Rg.step 18 F_Mo_amount_17 rfl (fun _ => rfl) ?_
  refine Rg.getf 21 F_Mo_amount_18 rfl rF_26_178 (gM hp) rfl ?_
  refine Rg.ifle 25 24 F_Mo_amount_21 rfl rfl (fun h21 => absurd h21 (by decide)) (fun _ => ?_)
  exact Rg.retV F_Mo_amount_24 rfl rfl
theorem c_Mo_moment {d : Nat}  (hp : pre.length = 168) {p q : Int} (b_0 : -2147483648 ≤ p ∧ p < 2147483648) (b_1 : -2147483648 ≤ q ∧ q < 2147483648) (h : -100000 ≤ p ∧ p ≤ 100000 ∧ 1 ≤ q ∧ q ≤ 1000) : Cg false (d + 3) m_Mo_moment [.ref 168, .int (iI p), .int (iI q)] (MR pre code amountN amountD momentN momentD epsilonN epsilonD firstFacts firstN firstD wishes wants wantN wantD actions needs needTime needOf needHow needN needD changes changeTime changeOf changeHow changeN changeD lastOf lastN lastD steps stepAction startN startD lengthN lengthD rows row tried triedAction triedRows triedRow times unit facts numN numD oldFacts oldN oldD point judged fault faultPoint toldFacts toldN toldD outN outD pointN pointD gone now leastN leastD greatestN greatestD events post) (.inl none) (MR pre 0 amountN amountD (nN p q) (nD p q) epsilonN epsilonD firstFacts firstN firstD wishes wants wantN wantD actions needs needTime needOf needHow needN needD changes changeTime changeOf changeHow changeN changeD lastOf lastN lastD steps stepAction startN startD lengthN lengthD rows row tried triedAction triedRows triedRow times unit facts numN numD oldFacts oldN oldD point judged fault faultPoint toldFacts toldN toldD (nN p q) (nD p q) pointN pointD gone now leastN leastD greatestN greatestD events post) := by
  refine Cg.of (Nat.le_of_ble_eq_true rfl) ?_
  change Rg _ _ _ _ 0 [(0, .ref 168), (1, .int (iI p)), (2, .int (iI q))] [] _ _ _
  refine Rg.step 1 F_Mo_moment_0 rfl (fun _ => rfl) ?_
  refine Rg.step 2 F_Mo_moment_1 rfl (fun _ => rfl) ?_
  refine Rg.step 3 F_Mo_moment_2 rfl (fun _ => rfl) ?_
  refine Rg.call 6 F_Mo_moment_3 rfl (one_S (by decide +kernel) rM_26_204 (by decide) (by simp) rfl rfl) (Nat.le_of_ble_eq_true rfl) (Cg.any (c_Mo_isFraction (by omega) (by omega))) ?_
  refine Rg.ifeqP 13 9 F_Mo_moment_6 rfl rfl (fun h6 => by omega) (fun _ => ?_)
  refine Rg.step 10 F_Mo_moment_9 rfl (fun _ => rfl) ?_
  refine Rg.step 14 F_Mo_moment_10 rfl (fun _ => rfl) ?_
  refine Rg.put 17 F_Mo_moment_14 rfl rF_26_178 (gM hp) (by decide) (Nat.le_of_ble_eq_true rfl) (Or.inl rfl) rfl (sM_code hp) ?_
  refine Rg.step 18 F_Mo_moment_17 rfl (fun _ => rfl) ?_
  refine Rg.getf 21 F_Mo_moment_18 rfl rF_26_178 (gM hp) rfl ?_
  refine Rg.ifle 25 24 F_Mo_moment_21 rfl rfl (fun _ => ?_) (fun h21 => absurd h21 (by decide))
  refine Rg.step 26 F_Mo_moment_25 rfl (fun _ => rfl) ?_
  refine Rg.step 27 F_Mo_moment_26 rfl (fun _ => rfl) ?_
  refine Rg.i2l 28 F_Mo_moment_27 rfl (by omega) ?_
  refine Rg.step 29 F_Mo_moment_28 rfl (fun _ => rfl) ?_
  refine Rg.i2l 30 F_Mo_moment_29 rfl (by omega) ?_
  refine Rg.call 33 F_Mo_moment_30 rfl (one_V rM_26_208 (by decide) (by simp) rfl rfl (gM hp) rfl) (Nat.le_of_ble_eq_true rfl) (c_Mo_out hp (by omega) (by omega) (by omega)) ?_
  refine Rg.step 34 F_Mo_moment_33 rfl (fun _ => rfl) ?_
  refine Rg.step 35 F_Mo_moment_34 rfl (fun _ => rfl) ?_
  refine Rg.getf 38 F_Mo_moment_35 rfl rF_26_189 (gM hp) rfl ?_
  refine Rg.put 41 F_Mo_moment_38 rfl rF_26_215 (gM hp) (by decide) (Nat.le_of_ble_eq_true rfl) (Or.inl rfl) rfl (sM_momentN hp) ?_
  refine Rg.step 42 F_Mo_moment_41 rfl (fun _ => rfl) ?_
  refine Rg.step 43 F_Mo_moment_42 rfl (fun _ => rfl) ?_
  refine Rg.getf 46 F_Mo_moment_43 rfl rF_26_192 (gM hp) rfl ?_
  refine Rg.put 49 F_Mo_moment_46 rfl rF_26_13 (gM hp) (by decide) (Nat.le_of_ble_eq_true rfl) (Or.inl rfl) rfl (sM_momentD hp) ?_
  exact Rg.retV F_Mo_moment_49 rfl rfl
theorem c_Mo_moment1 {d : Nat}  (hp : pre.length = 168) {p q : Int} (b_0 : -2147483648 ≤ p ∧ p < 2147483648) (b_1 : -2147483648 ≤ q ∧ q < 2147483648) (h : ¬ (-100000 ≤ p ∧ p ≤ 100000 ∧ 1 ≤ q ∧ q ≤ 1000)) : Cg false (d + 3) m_Mo_moment [.ref 168, .int (iI p), .int (iI q)] (MR pre code amountN amountD momentN momentD epsilonN epsilonD firstFacts firstN firstD wishes wants wantN wantD actions needs needTime needOf needHow needN needD changes changeTime changeOf changeHow changeN changeD lastOf lastN lastD steps stepAction startN startD lengthN lengthD rows row tried triedAction triedRows triedRow times unit facts numN numD oldFacts oldN oldD point judged fault faultPoint toldFacts toldN toldD outN outD pointN pointD gone now leastN leastD greatestN greatestD events post) (.inl none) (MR pre 1 amountN amountD momentN momentD epsilonN epsilonD firstFacts firstN firstD wishes wants wantN wantD actions needs needTime needOf needHow needN needD changes changeTime changeOf changeHow changeN changeD lastOf lastN lastD steps stepAction startN startD lengthN lengthD rows row tried triedAction triedRows triedRow times unit facts numN numD oldFacts oldN oldD point judged fault faultPoint toldFacts toldN toldD outN outD pointN pointD gone now leastN leastD greatestN greatestD events post) := by
  refine Cg.of (Nat.le_of_ble_eq_true rfl) ?_
  change Rg _ _ _ _ 0 [(0, .ref 168), (1, .int (iI p)), (2, .int (iI q))] [] _ _ _
  refine Rg.step 1 F_Mo_moment_0 rfl (fun _ => rfl) ?_
  refine Rg.step 2 F_Mo_moment_1 rfl (fun _ => rfl) ?_
  refine Rg.step 3 F_Mo_moment_2 rfl (fun _ => rfl) ?_
  refine Rg.call 6 F_Mo_moment_3 rfl (one_S (by decide +kernel) rM_26_204 (by decide) (by simp) rfl rfl) (Nat.le_of_ble_eq_true rfl) (Cg.any (c_Mo_isFraction (by omega) (by omega))) ?_
  refine Rg.ifeqP 13 9 F_Mo_moment_6 rfl rfl (fun _ => ?_) (fun h6 => by omega)
  refine Rg.step 14 F_Mo_moment_13 rfl (fun _ => rfl) ?_
  refine Rg.put 17 F_Mo_moment_14 rfl rF_26_178 (gM hp) (by decide) (Nat.le_of_ble_eq_true rfl) (Or.inl rfl) rfl (sM_code hp) ?_
  refine Rg.step 18 F_Mo_moment_17 rfl (fun _ => rfl) ?_
  refine Rg.getf 21 F_Mo_moment_18 rfl rF_26_178 (gM hp) rfl ?_
  refine Rg.ifle 25 24 F_Mo_moment_21 rfl rfl (fun h21 => absurd h21 (by decide)) (fun _ => ?_)
  exact Rg.retV F_Mo_moment_24 rfl rfl
theorem c_Mo_epsilon {d : Nat}  (hp : pre.length = 168) (b_0 : -4611686018427387904 < amountN ∧ amountN < 4611686018427387904) (h : 0 < amountN) : Cg false d m_Mo_epsilon [.ref 168] (MR pre code amountN amountD momentN momentD epsilonN epsilonD firstFacts firstN firstD wishes wants wantN wantD actions needs needTime needOf needHow needN needD changes changeTime changeOf changeHow changeN changeD lastOf lastN lastD steps stepAction startN startD lengthN lengthD rows row tried triedAction triedRows triedRow times unit facts numN numD oldFacts oldN oldD point judged fault faultPoint toldFacts toldN toldD outN outD pointN pointD gone now leastN leastD greatestN greatestD events post) (.inl none) (MR pre 0 amountN amountD momentN momentD amountN amountD firstFacts firstN firstD wishes wants wantN wantD actions needs needTime needOf needHow needN needD changes changeTime changeOf changeHow changeN changeD lastOf lastN lastD steps stepAction startN startD lengthN lengthD rows row tried triedAction triedRows triedRow times unit facts numN numD oldFacts oldN oldD point judged fault faultPoint toldFacts toldN toldD outN outD pointN pointD gone now leastN leastD greatestN greatestD events post) := by
  refine Cg.of (Nat.le_of_ble_eq_true rfl) ?_
  change Rg _ _ _ _ 0 [(0, .ref 168)] [] _ _ _
  refine Rg.step 1 F_Mo_epsilon_0 rfl (fun _ => rfl) ?_
  refine Rg.step 2 F_Mo_epsilon_1 rfl (fun _ => rfl) ?_
  refine Rg.getf 5 F_Mo_epsilon_2 rfl rF_26_212 (gM hp) rfl ?_
  refine Rg.lcn (n := 0) 6 F_Mo_epsilon_5 rfl rfl ?_
  refine Rg.lcle 14 10 F_Mo_epsilon_6 F_Mo_epsilon_7 rfl rfl (by omega) (by omega) (fun h6 => by omega) (fun _ => ?_)
  refine Rg.step 11 F_Mo_epsilon_10 rfl (fun _ => rfl) ?_
  refine Rg.step 15 F_Mo_epsilon_11 rfl (fun _ => rfl) ?_
  refine Rg.put 18 F_Mo_epsilon_15 rfl rF_26_178 (gM hp) (by decide) (Nat.le_of_ble_eq_true rfl) (Or.inl rfl) rfl (sM_code hp) ?_
  refine Rg.step 19 F_Mo_epsilon_18 rfl (fun _ => rfl) ?_
  refine Rg.getf 22 F_Mo_epsilon_19 rfl rF_26_178 (gM hp) rfl ?_
  refine Rg.ifle 26 25 F_Mo_epsilon_22 rfl rfl (fun _ => ?_) (fun h22 => absurd h22 (by decide))
  refine Rg.step 27 F_Mo_epsilon_26 rfl (fun _ => rfl) ?_
  refine Rg.step 28 F_Mo_epsilon_27 rfl (fun _ => rfl) ?_
  refine Rg.getf 31 F_Mo_epsilon_28 rfl rF_26_212 (gM hp) rfl ?_
  refine Rg.put 34 F_Mo_epsilon_31 rfl rF_26_16 (gM hp) (by decide) (Nat.le_of_ble_eq_true rfl) (Or.inl rfl) rfl (sM_epsilonN hp) ?_
  refine Rg.step 35 F_Mo_epsilon_34 rfl (fun _ => rfl) ?_
  refine Rg.step 36 F_Mo_epsilon_35 rfl (fun _ => rfl) ?_
  refine Rg.getf 39 F_Mo_epsilon_36 rfl rF_26_7 (gM hp) rfl ?_
  refine Rg.put 42 F_Mo_epsilon_39 rfl rF_26_21 (gM hp) (by decide) (Nat.le_of_ble_eq_true rfl) (Or.inl rfl) rfl (sM_epsilonD hp) ?_
  exact Rg.retV F_Mo_epsilon_42 rfl rfl
theorem c_Mo_epsilon1 {d : Nat}  (hp : pre.length = 168) (b_0 : -4611686018427387904 < amountN ∧ amountN < 4611686018427387904) (h : ¬ 0 < amountN) : Cg false d m_Mo_epsilon [.ref 168] (MR pre code amountN amountD momentN momentD epsilonN epsilonD firstFacts firstN firstD wishes wants wantN wantD actions needs needTime needOf needHow needN needD changes changeTime changeOf changeHow changeN changeD lastOf lastN lastD steps stepAction startN startD lengthN lengthD rows row tried triedAction triedRows triedRow times unit facts numN numD oldFacts oldN oldD point judged fault faultPoint toldFacts toldN toldD outN outD pointN pointD gone now leastN leastD greatestN greatestD events post) (.inl none) (MR pre 1 amountN amountD momentN momentD epsilonN epsilonD firstFacts firstN firstD wishes wants wantN wantD actions needs needTime needOf needHow needN needD changes changeTime changeOf changeHow changeN changeD lastOf lastN lastD steps stepAction startN startD lengthN lengthD rows row tried triedAction triedRows triedRow times unit facts numN numD oldFacts oldN oldD point judged fault faultPoint toldFacts toldN toldD outN outD pointN pointD gone now leastN leastD greatestN greatestD events post) := by
  refine Cg.of (Nat.le_of_ble_eq_true rfl) ?_
  change Rg _ _ _ _ 0 [(0, .ref 168)] [] _ _ _
  refine Rg.step 1 F_Mo_epsilon_0 rfl (fun _ => rfl) ?_
  refine Rg.step 2 F_Mo_epsilon_1 rfl (fun _ => rfl) ?_
  refine Rg.getf 5 F_Mo_epsilon_2 rfl rF_26_212 (gM hp) rfl ?_
  refine Rg.lcn (n := 0) 6 F_Mo_epsilon_5 rfl rfl ?_
  refine Rg.lcle 14 10 F_Mo_epsilon_6 F_Mo_epsilon_7 rfl rfl (by omega) (by omega) (fun _ => ?_) (fun h6 => by omega)
  refine Rg.step 15 F_Mo_epsilon_14 rfl (fun _ => rfl) ?_
  refine Rg.put 18 F_Mo_epsilon_15 rfl rF_26_178 (gM hp) (by decide) (Nat.le_of_ble_eq_true rfl) (Or.inl rfl) rfl (sM_code hp) ?_
  refine Rg.step 19 F_Mo_epsilon_18 rfl (fun _ => rfl) ?_
  refine Rg.getf 22 F_Mo_epsilon_19 rfl rF_26_178 (gM hp) rfl ?_
  refine Rg.ifle 26 25 F_Mo_epsilon_22 rfl rfl (fun h22 => absurd h22 (by decide)) (fun _ => ?_)
  exact Rg.retV F_Mo_epsilon_25 rfl rfl
theorem c_Mo_fact {d : Nat}  (hp : pre.length = 168) {f : Int} {v : Prop} (b_0 : -2147483648 ≤ f ∧ f < 2147483648) (h : 0 ≤ f ∧ f ≤ 15) : Cg false (d + 2) m_Mo_fact [.ref 168, .int (iI f), .int (bP v)] (MR pre code amountN amountD momentN momentD epsilonN epsilonD firstFacts firstN firstD wishes wants wantN wantD actions needs needTime needOf needHow needN needD changes changeTime changeOf changeHow changeN changeD lastOf lastN lastD steps stepAction startN startD lengthN lengthD rows row tried triedAction triedRows triedRow times unit facts numN numD oldFacts oldN oldD point judged fault faultPoint toldFacts toldN toldD outN outD pointN pointD gone now leastN leastD greatestN greatestD events post) (.inl none) (MR pre 0 amountN amountD momentN momentD epsilonN epsilonD (up1 firstFacts f v) firstN firstD wishes wants wantN wantD actions needs needTime needOf needHow needN needD changes changeTime changeOf changeHow changeN changeD lastOf lastN lastD steps stepAction startN startD lengthN lengthD rows row tried triedAction triedRows triedRow times unit facts numN numD oldFacts oldN oldD point judged fault faultPoint toldFacts toldN toldD outN outD pointN pointD gone now leastN leastD greatestN greatestD events post) := by
  refine Cg.of (Nat.le_of_ble_eq_true rfl) ?_
  change Rg _ _ _ _ 0 [(0, .ref 168), (1, .int (iI f)), (2, .int (bP v))] [] _ _ _
  refine Rg.step 1 F_Mo_fact_0 rfl (fun _ => rfl) ?_
  refine Rg.step 2 F_Mo_fact_1 rfl (fun _ => rfl) ?_
  refine Rg.call 5 F_Mo_fact_2 rfl (one_S (by decide +kernel) rM_26_221 (by decide) (by simp) rfl rfl) (Nat.le_of_ble_eq_true rfl) (Cg.any (c_Mo_isFact (by omega))) ?_
  refine Rg.ifeqP 12 8 F_Mo_fact_5 rfl rfl (fun h5 => by omega) (fun _ => ?_)
  refine Rg.step 9 F_Mo_fact_8 rfl (fun _ => rfl) ?_
  refine Rg.step 13 F_Mo_fact_9 rfl (fun _ => rfl) ?_
  refine Rg.put 16 F_Mo_fact_13 rfl rF_26_178 (gM hp) (by decide) (Nat.le_of_ble_eq_true rfl) (Or.inl rfl) rfl (sM_code hp) ?_
  refine Rg.step 17 F_Mo_fact_16 rfl (fun _ => rfl) ?_
  refine Rg.getf 20 F_Mo_fact_17 rfl rF_26_178 (gM hp) rfl ?_
  refine Rg.ifne 30 23 F_Mo_fact_20 rfl rfl (fun h20 => absurd h20 (by decide)) (fun _ => ?_)
  refine Rg.step 24 F_Mo_fact_23 rfl (fun _ => rfl) ?_
  refine Rg.getf 27 F_Mo_fact_24 rfl rF_26_24 (gM hp) rfl ?_
  refine Rg.step 28 F_Mo_fact_27 rfl (fun _ => rfl) ?_
  refine Rg.step 29 F_Mo_fact_28 rfl (fun _ => rfl) ?_
  refine Rg.zst 30 F_Mo_fact_29 rfl (gR_firstFacts hp) (by decide) (sR_firstFacts hp) (by omega) (by decide) ?_
  exact Rg.retV F_Mo_fact_30 rfl rfl
theorem c_Mo_fact1 {d : Nat}  (hp : pre.length = 168) {f : Int} {v : Prop} (b_0 : -2147483648 ≤ f ∧ f < 2147483648) (h : ¬ (0 ≤ f ∧ f ≤ 15)) : Cg false (d + 2) m_Mo_fact [.ref 168, .int (iI f), .int (bP v)] (MR pre code amountN amountD momentN momentD epsilonN epsilonD firstFacts firstN firstD wishes wants wantN wantD actions needs needTime needOf needHow needN needD changes changeTime changeOf changeHow changeN changeD lastOf lastN lastD steps stepAction startN startD lengthN lengthD rows row tried triedAction triedRows triedRow times unit facts numN numD oldFacts oldN oldD point judged fault faultPoint toldFacts toldN toldD outN outD pointN pointD gone now leastN leastD greatestN greatestD events post) (.inl none) (MR pre 1 amountN amountD momentN momentD epsilonN epsilonD firstFacts firstN firstD wishes wants wantN wantD actions needs needTime needOf needHow needN needD changes changeTime changeOf changeHow changeN changeD lastOf lastN lastD steps stepAction startN startD lengthN lengthD rows row tried triedAction triedRows triedRow times unit facts numN numD oldFacts oldN oldD point judged fault faultPoint toldFacts toldN toldD outN outD pointN pointD gone now leastN leastD greatestN greatestD events post) := by
  refine Cg.of (Nat.le_of_ble_eq_true rfl) ?_
  change Rg _ _ _ _ 0 [(0, .ref 168), (1, .int (iI f)), (2, .int (bP v))] [] _ _ _
  refine Rg.step 1 F_Mo_fact_0 rfl (fun _ => rfl) ?_
  refine Rg.step 2 F_Mo_fact_1 rfl (fun _ => rfl) ?_
  refine Rg.call 5 F_Mo_fact_2 rfl (one_S (by decide +kernel) rM_26_221 (by decide) (by simp) rfl rfl) (Nat.le_of_ble_eq_true rfl) (Cg.any (c_Mo_isFact (by omega))) ?_
  refine Rg.ifeqP 12 8 F_Mo_fact_5 rfl rfl (fun _ => ?_) (fun h5 => by omega)
  refine Rg.step 13 F_Mo_fact_12 rfl (fun _ => rfl) ?_
  refine Rg.put 16 F_Mo_fact_13 rfl rF_26_178 (gM hp) (by decide) (Nat.le_of_ble_eq_true rfl) (Or.inl rfl) rfl (sM_code hp) ?_
  refine Rg.step 17 F_Mo_fact_16 rfl (fun _ => rfl) ?_
  refine Rg.getf 20 F_Mo_fact_17 rfl rF_26_178 (gM hp) rfl ?_
  refine Rg.ifne 30 23 F_Mo_fact_20 rfl rfl (fun _ => ?_) (fun h20 => absurd h20 (by decide))
  exact Rg.retV F_Mo_fact_30 rfl rfl
theorem c_Mo_number {d : Nat}  (hp : pre.length = 168) {n : Int} (b_0 : -2147483648 ≤ n ∧ n < 2147483648) (h : 0 ≤ n ∧ n ≤ 7) : Cg false (d + 2) m_Mo_number [.ref 168, .int (iI n)] (MR pre code amountN amountD momentN momentD epsilonN epsilonD firstFacts firstN firstD wishes wants wantN wantD actions needs needTime needOf needHow needN needD changes changeTime changeOf changeHow changeN changeD lastOf lastN lastD steps stepAction startN startD lengthN lengthD rows row tried triedAction triedRows triedRow times unit facts numN numD oldFacts oldN oldD point judged fault faultPoint toldFacts toldN toldD outN outD pointN pointD gone now leastN leastD greatestN greatestD events post) (.inl none) (MR pre 0 amountN amountD momentN momentD epsilonN epsilonD firstFacts (up1 firstN n amountN) (up1 firstD n amountD) wishes wants wantN wantD actions needs needTime needOf needHow needN needD changes changeTime changeOf changeHow changeN changeD lastOf lastN lastD steps stepAction startN startD lengthN lengthD rows row tried triedAction triedRows triedRow times unit facts numN numD oldFacts oldN oldD point judged fault faultPoint toldFacts toldN toldD outN outD pointN pointD gone now leastN leastD greatestN greatestD events post) := by
  refine Cg.of (Nat.le_of_ble_eq_true rfl) ?_
  change Rg _ _ _ _ 0 [(0, .ref 168), (1, .int (iI n))] [] _ _ _
  refine Rg.step 1 F_Mo_number_0 rfl (fun _ => rfl) ?_
  refine Rg.step 2 F_Mo_number_1 rfl (fun _ => rfl) ?_
  refine Rg.call 5 F_Mo_number_2 rfl (one_S (by decide +kernel) rM_26_225 (by decide) (by simp) rfl rfl) (Nat.le_of_ble_eq_true rfl) (Cg.any (c_Mo_isNumber (by omega))) ?_
  refine Rg.ifeqP 12 8 F_Mo_number_5 rfl rfl (fun h5 => by omega) (fun _ => ?_)
  refine Rg.step 9 F_Mo_number_8 rfl (fun _ => rfl) ?_
  refine Rg.step 13 F_Mo_number_9 rfl (fun _ => rfl) ?_
  refine Rg.put 16 F_Mo_number_13 rfl rF_26_178 (gM hp) (by decide) (Nat.le_of_ble_eq_true rfl) (Or.inl rfl) rfl (sM_code hp) ?_
  refine Rg.step 17 F_Mo_number_16 rfl (fun _ => rfl) ?_
  refine Rg.getf 20 F_Mo_number_17 rfl rF_26_178 (gM hp) rfl ?_
  refine Rg.ifle 24 23 F_Mo_number_20 rfl rfl (fun _ => ?_) (fun h20 => absurd h20 (by decide))
  refine Rg.step 25 F_Mo_number_24 rfl (fun _ => rfl) ?_
  refine Rg.getf 28 F_Mo_number_25 rfl rF_26_28 (gM hp) rfl ?_
  refine Rg.step 29 F_Mo_number_28 rfl (fun _ => rfl) ?_
  refine Rg.step 30 F_Mo_number_29 rfl (fun _ => rfl) ?_
  refine Rg.getf 33 F_Mo_number_30 rfl rF_26_212 (gM hp) rfl ?_
  refine Rg.lst 34 F_Mo_number_33 rfl (gR_firstN hp) (by decide) (sR_firstN hp) (by omega) (by decide) ?_
  refine Rg.step 35 F_Mo_number_34 rfl (fun _ => rfl) ?_
  refine Rg.getf 38 F_Mo_number_35 rfl rF_26_32 (gM hp) rfl ?_
  refine Rg.step 39 F_Mo_number_38 rfl (fun _ => rfl) ?_
  refine Rg.step 40 F_Mo_number_39 rfl (fun _ => rfl) ?_
  refine Rg.getf 43 F_Mo_number_40 rfl rF_26_7 (gM hp) rfl ?_
  refine Rg.lst 44 F_Mo_number_43 rfl (gR_firstD hp) (by decide) (sR_firstD hp) (by omega) (by decide) ?_
  exact Rg.retV F_Mo_number_44 rfl rfl
theorem c_Mo_number1 {d : Nat}  (hp : pre.length = 168) {n : Int} (b_0 : -2147483648 ≤ n ∧ n < 2147483648) (h : ¬ (0 ≤ n ∧ n ≤ 7)) : Cg false (d + 2) m_Mo_number [.ref 168, .int (iI n)] (MR pre code amountN amountD momentN momentD epsilonN epsilonD firstFacts firstN firstD wishes wants wantN wantD actions needs needTime needOf needHow needN needD changes changeTime changeOf changeHow changeN changeD lastOf lastN lastD steps stepAction startN startD lengthN lengthD rows row tried triedAction triedRows triedRow times unit facts numN numD oldFacts oldN oldD point judged fault faultPoint toldFacts toldN toldD outN outD pointN pointD gone now leastN leastD greatestN greatestD events post) (.inl none) (MR pre 1 amountN amountD momentN momentD epsilonN epsilonD firstFacts firstN firstD wishes wants wantN wantD actions needs needTime needOf needHow needN needD changes changeTime changeOf changeHow changeN changeD lastOf lastN lastD steps stepAction startN startD lengthN lengthD rows row tried triedAction triedRows triedRow times unit facts numN numD oldFacts oldN oldD point judged fault faultPoint toldFacts toldN toldD outN outD pointN pointD gone now leastN leastD greatestN greatestD events post) := by
  refine Cg.of (Nat.le_of_ble_eq_true rfl) ?_
  change Rg _ _ _ _ 0 [(0, .ref 168), (1, .int (iI n))] [] _ _ _
  refine Rg.step 1 F_Mo_number_0 rfl (fun _ => rfl) ?_
  refine Rg.step 2 F_Mo_number_1 rfl (fun _ => rfl) ?_
  refine Rg.call 5 F_Mo_number_2 rfl (one_S (by decide +kernel) rM_26_225 (by decide) (by simp) rfl rfl) (Nat.le_of_ble_eq_true rfl) (Cg.any (c_Mo_isNumber (by omega))) ?_
  refine Rg.ifeqP 12 8 F_Mo_number_5 rfl rfl (fun _ => ?_) (fun h5 => by omega)
  refine Rg.step 13 F_Mo_number_12 rfl (fun _ => rfl) ?_
  refine Rg.put 16 F_Mo_number_13 rfl rF_26_178 (gM hp) (by decide) (Nat.le_of_ble_eq_true rfl) (Or.inl rfl) rfl (sM_code hp) ?_
  refine Rg.step 17 F_Mo_number_16 rfl (fun _ => rfl) ?_
  refine Rg.getf 20 F_Mo_number_17 rfl rF_26_178 (gM hp) rfl ?_
  refine Rg.ifle 24 23 F_Mo_number_20 rfl rfl (fun h20 => absurd h20 (by decide)) (fun _ => ?_)
  exact Rg.retV F_Mo_number_23 rfl rfl
theorem c_Mo_wish {d : Nat}  (hp : pre.length = 168) {f v : Int} (b_0 : -2147483648 ≤ f ∧ f < 2147483648) (b_1 : -2147483648 ≤ v ∧ v < 2147483648) (h : 0 ≤ f ∧ f ≤ 15) (h2 : -1 ≤ v ∧ v ≤ 1) : Cg false (d + 2) m_Mo_wish [.ref 168, .int (iI f), .int (iI v)] (MR pre code amountN amountD momentN momentD epsilonN epsilonD firstFacts firstN firstD wishes wants wantN wantD actions needs needTime needOf needHow needN needD changes changeTime changeOf changeHow changeN changeD lastOf lastN lastD steps stepAction startN startD lengthN lengthD rows row tried triedAction triedRows triedRow times unit facts numN numD oldFacts oldN oldD point judged fault faultPoint toldFacts toldN toldD outN outD pointN pointD gone now leastN leastD greatestN greatestD events post) (.inl none) (MR pre 0 amountN amountD momentN momentD epsilonN epsilonD firstFacts firstN firstD (up1 wishes f v) wants wantN wantD actions needs needTime needOf needHow needN needD changes changeTime changeOf changeHow changeN changeD lastOf lastN lastD steps stepAction startN startD lengthN lengthD rows row tried triedAction triedRows triedRow times unit facts numN numD oldFacts oldN oldD point judged fault faultPoint toldFacts toldN toldD outN outD pointN pointD gone now leastN leastD greatestN greatestD events post) := by
  refine Cg.of (Nat.le_of_ble_eq_true rfl) ?_
  change Rg _ _ _ _ 0 [(0, .ref 168), (1, .int (iI f)), (2, .int (iI v))] [] _ _ _
  refine Rg.step 1 F_Mo_wish_0 rfl (fun _ => rfl) ?_
  refine Rg.step 2 F_Mo_wish_1 rfl (fun _ => rfl) ?_
  refine Rg.call 5 F_Mo_wish_2 rfl (one_S (by decide +kernel) rM_26_221 (by decide) (by simp) rfl rfl) (Nat.le_of_ble_eq_true rfl) (Cg.any (c_Mo_isFact (by omega))) ?_
  refine Rg.ifneP 12 8 F_Mo_wish_5 rfl rfl (fun _ => ?_) (fun h5 => by omega)
  refine Rg.step 13 F_Mo_wish_12 rfl (fun _ => rfl) ?_
  refine Rg.step 14 F_Mo_wish_13 rfl (fun _ => rfl) ?_
  refine Rg.step 15 F_Mo_wish_14 rfl (fun _ => rfl) ?_
  refine Rg.call 18 F_Mo_wish_15 rfl (one_S (by decide +kernel) rM_26_200 (by decide) (by simp) rfl rfl) (Nat.le_of_ble_eq_true rfl) (Cg.any (c_Mo_in (by omega) (by omega) (by omega))) ?_
  refine Rg.ifneP 25 21 F_Mo_wish_18 rfl rfl (fun _ => ?_) (fun h18 => by omega)
  refine Rg.step 26 F_Mo_wish_25 rfl (fun _ => rfl) ?_
  refine Rg.put 29 F_Mo_wish_26 rfl rF_26_178 (gM hp) (by decide) (Nat.le_of_ble_eq_true rfl) (Or.inl rfl) rfl (sM_code hp) ?_
  refine Rg.step 30 F_Mo_wish_29 rfl (fun _ => rfl) ?_
  refine Rg.getf 33 F_Mo_wish_30 rfl rF_26_178 (gM hp) rfl ?_
  refine Rg.ifne 43 36 F_Mo_wish_33 rfl rfl (fun h33 => absurd h33 (by decide)) (fun _ => ?_)
  refine Rg.step 37 F_Mo_wish_36 rfl (fun _ => rfl) ?_
  refine Rg.getf 40 F_Mo_wish_37 rfl rF_26_35 (gM hp) rfl ?_
  refine Rg.step 41 F_Mo_wish_40 rfl (fun _ => rfl) ?_
  refine Rg.step 42 F_Mo_wish_41 rfl (fun _ => rfl) ?_
  refine Rg.ist 43 F_Mo_wish_42 rfl (gR_wishes hp) (by decide) (sR_wishes hp) (by omega) (by decide) ?_
  exact Rg.retV F_Mo_wish_43 rfl rfl
theorem c_Mo_wish1 {d : Nat}  (hp : pre.length = 168) {f v : Int} (b_0 : -2147483648 ≤ f ∧ f < 2147483648) (b_1 : -2147483648 ≤ v ∧ v < 2147483648) (h : ¬ (0 ≤ f ∧ f ≤ 15)) : Cg false (d + 2) m_Mo_wish [.ref 168, .int (iI f), .int (iI v)] (MR pre code amountN amountD momentN momentD epsilonN epsilonD firstFacts firstN firstD wishes wants wantN wantD actions needs needTime needOf needHow needN needD changes changeTime changeOf changeHow changeN changeD lastOf lastN lastD steps stepAction startN startD lengthN lengthD rows row tried triedAction triedRows triedRow times unit facts numN numD oldFacts oldN oldD point judged fault faultPoint toldFacts toldN toldD outN outD pointN pointD gone now leastN leastD greatestN greatestD events post) (.inl none) (MR pre 1 amountN amountD momentN momentD epsilonN epsilonD firstFacts firstN firstD wishes wants wantN wantD actions needs needTime needOf needHow needN needD changes changeTime changeOf changeHow changeN changeD lastOf lastN lastD steps stepAction startN startD lengthN lengthD rows row tried triedAction triedRows triedRow times unit facts numN numD oldFacts oldN oldD point judged fault faultPoint toldFacts toldN toldD outN outD pointN pointD gone now leastN leastD greatestN greatestD events post) := by
  refine Cg.of (Nat.le_of_ble_eq_true rfl) ?_
  change Rg _ _ _ _ 0 [(0, .ref 168), (1, .int (iI f)), (2, .int (iI v))] [] _ _ _
  refine Rg.step 1 F_Mo_wish_0 rfl (fun _ => rfl) ?_
  refine Rg.step 2 F_Mo_wish_1 rfl (fun _ => rfl) ?_
  refine Rg.call 5 F_Mo_wish_2 rfl (one_S (by decide +kernel) rM_26_221 (by decide) (by simp) rfl rfl) (Nat.le_of_ble_eq_true rfl) (Cg.any (c_Mo_isFact (by omega))) ?_
  refine Rg.ifneP 12 8 F_Mo_wish_5 rfl rfl (fun h5 => by omega) (fun _ => ?_)
  refine Rg.step 9 F_Mo_wish_8 rfl (fun _ => rfl) ?_
  refine Rg.step 26 F_Mo_wish_9 rfl (fun _ => rfl) ?_
  refine Rg.put 29 F_Mo_wish_26 rfl rF_26_178 (gM hp) (by decide) (Nat.le_of_ble_eq_true rfl) (Or.inl rfl) rfl (sM_code hp) ?_
  refine Rg.step 30 F_Mo_wish_29 rfl (fun _ => rfl) ?_
  refine Rg.getf 33 F_Mo_wish_30 rfl rF_26_178 (gM hp) rfl ?_
  refine Rg.ifne 43 36 F_Mo_wish_33 rfl rfl (fun _ => ?_) (fun h33 => absurd h33 (by decide))
  exact Rg.retV F_Mo_wish_43 rfl rfl
theorem c_Mo_wish2 {d : Nat}  (hp : pre.length = 168) {f v : Int} (b_0 : -2147483648 ≤ f ∧ f < 2147483648) (b_1 : -2147483648 ≤ v ∧ v < 2147483648) (h : 0 ≤ f ∧ f ≤ 15) (h2 : ¬ (-1 ≤ v ∧ v ≤ 1)) : Cg false (d + 2) m_Mo_wish [.ref 168, .int (iI f), .int (iI v)] (MR pre code amountN amountD momentN momentD epsilonN epsilonD firstFacts firstN firstD wishes wants wantN wantD actions needs needTime needOf needHow needN needD changes changeTime changeOf changeHow changeN changeD lastOf lastN lastD steps stepAction startN startD lengthN lengthD rows row tried triedAction triedRows triedRow times unit facts numN numD oldFacts oldN oldD point judged fault faultPoint toldFacts toldN toldD outN outD pointN pointD gone now leastN leastD greatestN greatestD events post) (.inl none) (MR pre 2 amountN amountD momentN momentD epsilonN epsilonD firstFacts firstN firstD wishes wants wantN wantD actions needs needTime needOf needHow needN needD changes changeTime changeOf changeHow changeN changeD lastOf lastN lastD steps stepAction startN startD lengthN lengthD rows row tried triedAction triedRows triedRow times unit facts numN numD oldFacts oldN oldD point judged fault faultPoint toldFacts toldN toldD outN outD pointN pointD gone now leastN leastD greatestN greatestD events post) := by
  refine Cg.of (Nat.le_of_ble_eq_true rfl) ?_
  change Rg _ _ _ _ 0 [(0, .ref 168), (1, .int (iI f)), (2, .int (iI v))] [] _ _ _
  refine Rg.step 1 F_Mo_wish_0 rfl (fun _ => rfl) ?_
  refine Rg.step 2 F_Mo_wish_1 rfl (fun _ => rfl) ?_
  refine Rg.call 5 F_Mo_wish_2 rfl (one_S (by decide +kernel) rM_26_221 (by decide) (by simp) rfl rfl) (Nat.le_of_ble_eq_true rfl) (Cg.any (c_Mo_isFact (by omega))) ?_
  refine Rg.ifneP 12 8 F_Mo_wish_5 rfl rfl (fun _ => ?_) (fun h5 => by omega)
  refine Rg.step 13 F_Mo_wish_12 rfl (fun _ => rfl) ?_
  refine Rg.step 14 F_Mo_wish_13 rfl (fun _ => rfl) ?_
  refine Rg.step 15 F_Mo_wish_14 rfl (fun _ => rfl) ?_
  refine Rg.call 18 F_Mo_wish_15 rfl (one_S (by decide +kernel) rM_26_200 (by decide) (by simp) rfl rfl) (Nat.le_of_ble_eq_true rfl) (Cg.any (c_Mo_in (by omega) (by omega) (by omega))) ?_
  refine Rg.ifneP 25 21 F_Mo_wish_18 rfl rfl (fun h18 => by omega) (fun _ => ?_)
  refine Rg.step 22 F_Mo_wish_21 rfl (fun _ => rfl) ?_
  refine Rg.step 26 F_Mo_wish_22 rfl (fun _ => rfl) ?_
  refine Rg.put 29 F_Mo_wish_26 rfl rF_26_178 (gM hp) (by decide) (Nat.le_of_ble_eq_true rfl) (Or.inl rfl) rfl (sM_code hp) ?_
  refine Rg.step 30 F_Mo_wish_29 rfl (fun _ => rfl) ?_
  refine Rg.getf 33 F_Mo_wish_30 rfl rF_26_178 (gM hp) rfl ?_
  refine Rg.ifne 43 36 F_Mo_wish_33 rfl rfl (fun _ => ?_) (fun h33 => absurd h33 (by decide))
  exact Rg.retV F_Mo_wish_43 rfl rfl
theorem c_Mo_want {d : Nat}  (hp : pre.length = 168) {f v : Int} (b_0 : -2147483648 ≤ f ∧ f < 2147483648) (b_1 : -2147483648 ≤ v ∧ v < 2147483648) (h : 0 ≤ f ∧ f ≤ 7) (h2 : -1 ≤ v ∧ v ≤ 4) : Cg false (d + 2) m_Mo_want [.ref 168, .int (iI f), .int (iI v)] (MR pre code amountN amountD momentN momentD epsilonN epsilonD firstFacts firstN firstD wishes wants wantN wantD actions needs needTime needOf needHow needN needD changes changeTime changeOf changeHow changeN changeD lastOf lastN lastD steps stepAction startN startD lengthN lengthD rows row tried triedAction triedRows triedRow times unit facts numN numD oldFacts oldN oldD point judged fault faultPoint toldFacts toldN toldD outN outD pointN pointD gone now leastN leastD greatestN greatestD events post) (.inl none) (MR pre 0 amountN amountD momentN momentD epsilonN epsilonD firstFacts firstN firstD wishes (up1 wants f v) (up1 wantN f amountN) (up1 wantD f amountD) actions needs needTime needOf needHow needN needD changes changeTime changeOf changeHow changeN changeD lastOf lastN lastD steps stepAction startN startD lengthN lengthD rows row tried triedAction triedRows triedRow times unit facts numN numD oldFacts oldN oldD point judged fault faultPoint toldFacts toldN toldD outN outD pointN pointD gone now leastN leastD greatestN greatestD events post) := by
  refine Cg.of (Nat.le_of_ble_eq_true rfl) ?_
  change Rg _ _ _ _ 0 [(0, .ref 168), (1, .int (iI f)), (2, .int (iI v))] [] _ _ _
  refine Rg.step 1 F_Mo_want_0 rfl (fun _ => rfl) ?_
  refine Rg.step 2 F_Mo_want_1 rfl (fun _ => rfl) ?_
  refine Rg.call 5 F_Mo_want_2 rfl (one_S (by decide +kernel) rM_26_225 (by decide) (by simp) rfl rfl) (Nat.le_of_ble_eq_true rfl) (Cg.any (c_Mo_isNumber (by omega))) ?_
  refine Rg.ifneP 12 8 F_Mo_want_5 rfl rfl (fun _ => ?_) (fun h5 => by omega)
  refine Rg.step 13 F_Mo_want_12 rfl (fun _ => rfl) ?_
  refine Rg.step 14 F_Mo_want_13 rfl (fun _ => rfl) ?_
  refine Rg.step 15 F_Mo_want_14 rfl (fun _ => rfl) ?_
  refine Rg.call 18 F_Mo_want_15 rfl (one_S (by decide +kernel) rM_26_200 (by decide) (by simp) rfl rfl) (Nat.le_of_ble_eq_true rfl) (Cg.any (c_Mo_in (by omega) (by omega) (by omega))) ?_
  refine Rg.ifneP 25 21 F_Mo_want_18 rfl rfl (fun _ => ?_) (fun h18 => by omega)
  refine Rg.step 26 F_Mo_want_25 rfl (fun _ => rfl) ?_
  refine Rg.put 29 F_Mo_want_26 rfl rF_26_178 (gM hp) (by decide) (Nat.le_of_ble_eq_true rfl) (Or.inl rfl) rfl (sM_code hp) ?_
  refine Rg.step 30 F_Mo_want_29 rfl (fun _ => rfl) ?_
  refine Rg.getf 33 F_Mo_want_30 rfl rF_26_178 (gM hp) rfl ?_
  refine Rg.ifle 37 36 F_Mo_want_33 rfl rfl (fun _ => ?_) (fun h33 => absurd h33 (by decide))
  refine Rg.step 38 F_Mo_want_37 rfl (fun _ => rfl) ?_
  refine Rg.getf 41 F_Mo_want_38 rfl rF_26_39 (gM hp) rfl ?_
  refine Rg.step 42 F_Mo_want_41 rfl (fun _ => rfl) ?_
  refine Rg.step 43 F_Mo_want_42 rfl (fun _ => rfl) ?_
  refine Rg.ist 44 F_Mo_want_43 rfl (gR_wants hp) (by decide) (sR_wants hp) (by omega) (by decide) ?_
  refine Rg.step 45 F_Mo_want_44 rfl (fun _ => rfl) ?_
  refine Rg.getf 48 F_Mo_want_45 rfl rF_26_42 (gM hp) rfl ?_
  refine Rg.step 49 F_Mo_want_48 rfl (fun _ => rfl) ?_
  refine Rg.step 50 F_Mo_want_49 rfl (fun _ => rfl) ?_
  refine Rg.getf 53 F_Mo_want_50 rfl rF_26_212 (gM hp) rfl ?_
  refine Rg.lst 54 F_Mo_want_53 rfl (gR_wantN hp) (by decide) (sR_wantN hp) (by omega) (by decide) ?_
  refine Rg.step 55 F_Mo_want_54 rfl (fun _ => rfl) ?_
  refine Rg.getf 58 F_Mo_want_55 rfl rF_26_45 (gM hp) rfl ?_
  refine Rg.step 59 F_Mo_want_58 rfl (fun _ => rfl) ?_
  refine Rg.step 60 F_Mo_want_59 rfl (fun _ => rfl) ?_
  refine Rg.getf 63 F_Mo_want_60 rfl rF_26_7 (gM hp) rfl ?_
  refine Rg.lst 64 F_Mo_want_63 rfl (gR_wantD hp) (by decide) (sR_wantD hp) (by omega) (by decide) ?_
  exact Rg.retV F_Mo_want_64 rfl rfl
theorem c_Mo_want1 {d : Nat}  (hp : pre.length = 168) {f v : Int} (b_0 : -2147483648 ≤ f ∧ f < 2147483648) (b_1 : -2147483648 ≤ v ∧ v < 2147483648) (h : ¬ (0 ≤ f ∧ f ≤ 7)) : Cg false (d + 2) m_Mo_want [.ref 168, .int (iI f), .int (iI v)] (MR pre code amountN amountD momentN momentD epsilonN epsilonD firstFacts firstN firstD wishes wants wantN wantD actions needs needTime needOf needHow needN needD changes changeTime changeOf changeHow changeN changeD lastOf lastN lastD steps stepAction startN startD lengthN lengthD rows row tried triedAction triedRows triedRow times unit facts numN numD oldFacts oldN oldD point judged fault faultPoint toldFacts toldN toldD outN outD pointN pointD gone now leastN leastD greatestN greatestD events post) (.inl none) (MR pre 1 amountN amountD momentN momentD epsilonN epsilonD firstFacts firstN firstD wishes wants wantN wantD actions needs needTime needOf needHow needN needD changes changeTime changeOf changeHow changeN changeD lastOf lastN lastD steps stepAction startN startD lengthN lengthD rows row tried triedAction triedRows triedRow times unit facts numN numD oldFacts oldN oldD point judged fault faultPoint toldFacts toldN toldD outN outD pointN pointD gone now leastN leastD greatestN greatestD events post) := by
  refine Cg.of (Nat.le_of_ble_eq_true rfl) ?_
  change Rg _ _ _ _ 0 [(0, .ref 168), (1, .int (iI f)), (2, .int (iI v))] [] _ _ _
  refine Rg.step 1 F_Mo_want_0 rfl (fun _ => rfl) ?_
  refine Rg.step 2 F_Mo_want_1 rfl (fun _ => rfl) ?_
  refine Rg.call 5 F_Mo_want_2 rfl (one_S (by decide +kernel) rM_26_225 (by decide) (by simp) rfl rfl) (Nat.le_of_ble_eq_true rfl) (Cg.any (c_Mo_isNumber (by omega))) ?_
  refine Rg.ifneP 12 8 F_Mo_want_5 rfl rfl (fun h5 => by omega) (fun _ => ?_)
  refine Rg.step 9 F_Mo_want_8 rfl (fun _ => rfl) ?_
  refine Rg.step 26 F_Mo_want_9 rfl (fun _ => rfl) ?_
  refine Rg.put 29 F_Mo_want_26 rfl rF_26_178 (gM hp) (by decide) (Nat.le_of_ble_eq_true rfl) (Or.inl rfl) rfl (sM_code hp) ?_
  refine Rg.step 30 F_Mo_want_29 rfl (fun _ => rfl) ?_
  refine Rg.getf 33 F_Mo_want_30 rfl rF_26_178 (gM hp) rfl ?_
  refine Rg.ifle 37 36 F_Mo_want_33 rfl rfl (fun h33 => absurd h33 (by decide)) (fun _ => ?_)
  exact Rg.retV F_Mo_want_36 rfl rfl
theorem c_Mo_want2 {d : Nat}  (hp : pre.length = 168) {f v : Int} (b_0 : -2147483648 ≤ f ∧ f < 2147483648) (b_1 : -2147483648 ≤ v ∧ v < 2147483648) (h : 0 ≤ f ∧ f ≤ 7) (h2 : ¬ (-1 ≤ v ∧ v ≤ 4)) : Cg false (d + 2) m_Mo_want [.ref 168, .int (iI f), .int (iI v)] (MR pre code amountN amountD momentN momentD epsilonN epsilonD firstFacts firstN firstD wishes wants wantN wantD actions needs needTime needOf needHow needN needD changes changeTime changeOf changeHow changeN changeD lastOf lastN lastD steps stepAction startN startD lengthN lengthD rows row tried triedAction triedRows triedRow times unit facts numN numD oldFacts oldN oldD point judged fault faultPoint toldFacts toldN toldD outN outD pointN pointD gone now leastN leastD greatestN greatestD events post) (.inl none) (MR pre 2 amountN amountD momentN momentD epsilonN epsilonD firstFacts firstN firstD wishes wants wantN wantD actions needs needTime needOf needHow needN needD changes changeTime changeOf changeHow changeN changeD lastOf lastN lastD steps stepAction startN startD lengthN lengthD rows row tried triedAction triedRows triedRow times unit facts numN numD oldFacts oldN oldD point judged fault faultPoint toldFacts toldN toldD outN outD pointN pointD gone now leastN leastD greatestN greatestD events post) := by
  refine Cg.of (Nat.le_of_ble_eq_true rfl) ?_
  change Rg _ _ _ _ 0 [(0, .ref 168), (1, .int (iI f)), (2, .int (iI v))] [] _ _ _
  refine Rg.step 1 F_Mo_want_0 rfl (fun _ => rfl) ?_
  refine Rg.step 2 F_Mo_want_1 rfl (fun _ => rfl) ?_
  refine Rg.call 5 F_Mo_want_2 rfl (one_S (by decide +kernel) rM_26_225 (by decide) (by simp) rfl rfl) (Nat.le_of_ble_eq_true rfl) (Cg.any (c_Mo_isNumber (by omega))) ?_
  refine Rg.ifneP 12 8 F_Mo_want_5 rfl rfl (fun _ => ?_) (fun h5 => by omega)
  refine Rg.step 13 F_Mo_want_12 rfl (fun _ => rfl) ?_
  refine Rg.step 14 F_Mo_want_13 rfl (fun _ => rfl) ?_
  refine Rg.step 15 F_Mo_want_14 rfl (fun _ => rfl) ?_
  refine Rg.call 18 F_Mo_want_15 rfl (one_S (by decide +kernel) rM_26_200 (by decide) (by simp) rfl rfl) (Nat.le_of_ble_eq_true rfl) (Cg.any (c_Mo_in (by omega) (by omega) (by omega))) ?_
  refine Rg.ifneP 25 21 F_Mo_want_18 rfl rfl (fun h18 => by omega) (fun _ => ?_)
  refine Rg.step 22 F_Mo_want_21 rfl (fun _ => rfl) ?_
  refine Rg.step 26 F_Mo_want_22 rfl (fun _ => rfl) ?_
  refine Rg.put 29 F_Mo_want_26 rfl rF_26_178 (gM hp) (by decide) (Nat.le_of_ble_eq_true rfl) (Or.inl rfl) rfl (sM_code hp) ?_
  refine Rg.step 30 F_Mo_want_29 rfl (fun _ => rfl) ?_
  refine Rg.getf 33 F_Mo_want_30 rfl rF_26_178 (gM hp) rfl ?_
  refine Rg.ifle 37 36 F_Mo_want_33 rfl rfl (fun h33 => absurd h33 (by decide)) (fun _ => ?_)
  exact Rg.retV F_Mo_want_36 rfl rfl
theorem c_Mo_action {d : Nat}  (hp : pre.length = 168) (wA : 0 ≤ actions ∧ actions ≤ 12) (h : ¬ actions = 12) : Cg false d m_Mo_action [.ref 168] (MR pre code amountN amountD momentN momentD epsilonN epsilonD firstFacts firstN firstD wishes wants wantN wantD actions needs needTime needOf needHow needN needD changes changeTime changeOf changeHow changeN changeD lastOf lastN lastD steps stepAction startN startD lengthN lengthD rows row tried triedAction triedRows triedRow times unit facts numN numD oldFacts oldN oldD point judged fault faultPoint toldFacts toldN toldD outN outD pointN pointD gone now leastN leastD greatestN greatestD events post) (.inl (some (.int (iI actions)))) (MR pre 0 amountN amountD momentN momentD epsilonN epsilonD firstFacts firstN firstD wishes wants wantN wantD (actions + 1) (up1 needs actions 0) needTime needOf needHow needN needD (up1 changes actions 0) changeTime changeOf changeHow changeN changeD (up1 (up1 lastOf (2 * actions) (-2)) (2 * actions + 1) (-2)) lastN lastD steps stepAction startN startD lengthN lengthD rows row tried triedAction triedRows triedRow times unit facts numN numD oldFacts oldN oldD point judged fault faultPoint toldFacts toldN toldD outN outD pointN pointD gone now leastN leastD greatestN greatestD events post) := by
  refine Cg.of (Nat.le_of_ble_eq_true rfl) ?_
  change Rg _ _ _ _ 0 [(0, .ref 168)] [] _ _ _
  refine Rg.step 1 F_Mo_action_0 rfl (fun _ => rfl) ?_
  refine Rg.step 2 F_Mo_action_1 rfl (fun _ => rfl) ?_
  refine Rg.getf 5 F_Mo_action_2 rfl rF_26_218 (gM hp) rfl ?_
  refine Rg.bip 7 F_Mo_action_5 rfl rfl ?_
  refine Rg.icneI 14 10 F_Mo_action_7 rfl rfl (by omega) (by omega) (fun _ => ?_) (fun h7 => by omega)
  refine Rg.step 15 F_Mo_action_14 rfl (fun _ => rfl) ?_
  refine Rg.put 18 F_Mo_action_15 rfl rF_26_178 (gM hp) (by decide) (Nat.le_of_ble_eq_true rfl) (Or.inl rfl) rfl (sM_code hp) ?_
  refine Rg.step 19 F_Mo_action_18 rfl (fun _ => rfl) ?_
  refine Rg.getf 22 F_Mo_action_19 rfl rF_26_178 (gM hp) rfl ?_
  refine Rg.ifle 27 25 F_Mo_action_22 rfl rfl (fun _ => ?_) (fun h22 => absurd h22 (by decide))
  refine Rg.step 28 F_Mo_action_27 rfl (fun _ => rfl) ?_
  refine Rg.getf 31 F_Mo_action_28 rfl rF_26_48 (gM hp) rfl ?_
  refine Rg.step 32 F_Mo_action_31 rfl (fun _ => rfl) ?_
  refine Rg.getf 35 F_Mo_action_32 rfl rF_26_218 (gM hp) rfl ?_
  refine Rg.step 36 F_Mo_action_35 rfl (fun _ => rfl) ?_
  refine Rg.ist 37 F_Mo_action_36 rfl (gR_needs hp) (by decide) (sR_needs hp) (by omega) (by decide) ?_
  refine Rg.step 38 F_Mo_action_37 rfl (fun _ => rfl) ?_
  refine Rg.getf 41 F_Mo_action_38 rfl rF_26_66 (gM hp) rfl ?_
  refine Rg.step 42 F_Mo_action_41 rfl (fun _ => rfl) ?_
  refine Rg.getf 45 F_Mo_action_42 rfl rF_26_218 (gM hp) rfl ?_
  refine Rg.step 46 F_Mo_action_45 rfl (fun _ => rfl) ?_
  refine Rg.ist 47 F_Mo_action_46 rfl (gR_changes hp) (by decide) (sR_changes hp) (by omega) (by decide) ?_
  refine Rg.step 48 F_Mo_action_47 rfl (fun _ => rfl) ?_
  refine Rg.getf 51 F_Mo_action_48 rfl rF_26_84 (gM hp) rfl ?_
  refine Rg.step 52 F_Mo_action_51 rfl (fun _ => rfl) ?_
  refine Rg.step 53 F_Mo_action_52 rfl (fun _ => rfl) ?_
  refine Rg.getf 56 F_Mo_action_53 rfl rF_26_218 (gM hp) rfl ?_
  refine Rg.mulI 57 F_Mo_action_56 rfl ?_
  refine Rg.bip 59 F_Mo_action_57 rfl rfl ?_
  refine Rg.ist 60 F_Mo_action_59 rfl (gR_lastOf hp) (by decide) (sR_lastOf hp) (by omega) (by decide) ?_
  refine Rg.step 61 F_Mo_action_60 rfl (fun _ => rfl) ?_
  refine Rg.getf 64 F_Mo_action_61 rfl rF_26_84 (gM hp) rfl ?_
  refine Rg.step 65 F_Mo_action_64 rfl (fun _ => rfl) ?_
  refine Rg.step 66 F_Mo_action_65 rfl (fun _ => rfl) ?_
  refine Rg.getf 69 F_Mo_action_66 rfl rF_26_218 (gM hp) rfl ?_
  refine Rg.mulI 70 F_Mo_action_69 rfl ?_
  refine Rg.step 71 F_Mo_action_70 rfl (fun _ => rfl) ?_
  refine Rg.addI 72 F_Mo_action_71 rfl ?_
  refine Rg.bip 74 F_Mo_action_72 rfl rfl ?_
  refine Rg.ist 75 F_Mo_action_74 rfl (gR_lastOf hp) (by decide) (sR_lastOf hp) (by omega) (by decide) ?_
  refine Rg.step 76 F_Mo_action_75 rfl (fun _ => rfl) ?_
  refine Rg.step 77 F_Mo_action_76 rfl (fun _ => rfl) ?_
  refine Rg.getf 80 F_Mo_action_77 rfl rF_26_218 (gM hp) rfl ?_
  refine Rg.step 81 F_Mo_action_80 rfl (fun _ => rfl) ?_
  refine Rg.addI 82 F_Mo_action_81 rfl ?_
  refine Rg.put 85 F_Mo_action_82 rfl rF_26_218 (gM hp) (by decide) (Nat.le_of_ble_eq_true rfl) (Or.inl rfl) rfl (sM_actions hp) ?_
  refine Rg.step 86 F_Mo_action_85 rfl (fun _ => rfl) ?_
  refine Rg.getf 89 F_Mo_action_86 rfl rF_26_218 (gM hp) rfl ?_
  refine Rg.step 90 F_Mo_action_89 rfl (fun _ => rfl) ?_
  refine Rg.subI 91 F_Mo_action_90 rfl ?_
  exact Rg.retI F_Mo_action_91 rfl (by omega) rfl
theorem c_Mo_action1 {d : Nat}  (hp : pre.length = 168) (wA : 0 ≤ actions ∧ actions ≤ 12) (h : actions = 12) : Cg false d m_Mo_action [.ref 168] (MR pre code amountN amountD momentN momentD epsilonN epsilonD firstFacts firstN firstD wishes wants wantN wantD actions needs needTime needOf needHow needN needD changes changeTime changeOf changeHow changeN changeD lastOf lastN lastD steps stepAction startN startD lengthN lengthD rows row tried triedAction triedRows triedRow times unit facts numN numD oldFacts oldN oldD point judged fault faultPoint toldFacts toldN toldD outN outD pointN pointD gone now leastN leastD greatestN greatestD events post) (.inl (some (.int (iI 0)))) (MR pre 1 amountN amountD momentN momentD epsilonN epsilonD firstFacts firstN firstD wishes wants wantN wantD actions needs needTime needOf needHow needN needD changes changeTime changeOf changeHow changeN changeD lastOf lastN lastD steps stepAction startN startD lengthN lengthD rows row tried triedAction triedRows triedRow times unit facts numN numD oldFacts oldN oldD point judged fault faultPoint toldFacts toldN toldD outN outD pointN pointD gone now leastN leastD greatestN greatestD events post) := by
  refine Cg.of (Nat.le_of_ble_eq_true rfl) ?_
  change Rg _ _ _ _ 0 [(0, .ref 168)] [] _ _ _
  refine Rg.step 1 F_Mo_action_0 rfl (fun _ => rfl) ?_
  refine Rg.step 2 F_Mo_action_1 rfl (fun _ => rfl) ?_
  refine Rg.getf 5 F_Mo_action_2 rfl rF_26_218 (gM hp) rfl ?_
  refine Rg.bip 7 F_Mo_action_5 rfl rfl ?_
  refine Rg.icneI 14 10 F_Mo_action_7 rfl rfl (by omega) (by omega) (fun h7 => by omega) (fun _ => ?_)
  refine Rg.step 11 F_Mo_action_10 rfl (fun _ => rfl) ?_
  refine Rg.step 15 F_Mo_action_11 rfl (fun _ => rfl) ?_
  refine Rg.put 18 F_Mo_action_15 rfl rF_26_178 (gM hp) (by decide) (Nat.le_of_ble_eq_true rfl) (Or.inl rfl) rfl (sM_code hp) ?_
  refine Rg.step 19 F_Mo_action_18 rfl (fun _ => rfl) ?_
  refine Rg.getf 22 F_Mo_action_19 rfl rF_26_178 (gM hp) rfl ?_
  refine Rg.ifle 27 25 F_Mo_action_22 rfl rfl (fun h22 => absurd h22 (by decide)) (fun _ => ?_)
  refine Rg.step 26 F_Mo_action_25 rfl (fun _ => rfl) ?_
  exact Rg.retI F_Mo_action_26 rfl rfl rfl
theorem c_Mo_addNeed {d : Nat}  (hp : pre.length = 168) {a time of how : Int} (h1 : 0 ≤ a ∧ a < 12) (h2 : 0 ≤ needs a ∧ needs a < 8) : Cg false d m_Mo_addNeed [.ref 168, .int (iI a), .int (iI time), .int (iI of), .int (iI how)] (MR pre code amountN amountD momentN momentD epsilonN epsilonD firstFacts firstN firstD wishes wants wantN wantD actions needs needTime needOf needHow needN needD changes changeTime changeOf changeHow changeN changeD lastOf lastN lastD steps stepAction startN startD lengthN lengthD rows row tried triedAction triedRows triedRow times unit facts numN numD oldFacts oldN oldD point judged fault faultPoint toldFacts toldN toldD outN outD pointN pointD gone now leastN leastD greatestN greatestD events post) (.inl none) (MR pre code amountN amountD momentN momentD epsilonN epsilonD firstFacts firstN firstD wishes wants wantN wantD actions (up1 needs a (needs a + 1)) (up1 needTime (8 * a + needs a) time) (up1 needOf (8 * a + needs a) of) (up1 needHow (8 * a + needs a) how) (up1 needN (8 * a + needs a) amountN) (up1 needD (8 * a + needs a) amountD) changes changeTime changeOf changeHow changeN changeD lastOf lastN lastD steps stepAction startN startD lengthN lengthD rows row tried triedAction triedRows triedRow times unit facts numN numD oldFacts oldN oldD point judged fault faultPoint toldFacts toldN toldD outN outD pointN pointD gone now leastN leastD greatestN greatestD events post) := by
  refine Cg.of (Nat.le_of_ble_eq_true rfl) ?_
  change Rg _ _ _ _ 0 [(0, .ref 168), (1, .int (iI a)), (2, .int (iI time)), (3, .int (iI of)), (4, .int (iI how))] [] _ _ _
  refine Rg.bip 2 F_Mo_addNeed_0 rfl rfl ?_
  refine Rg.step 3 F_Mo_addNeed_2 rfl (fun _ => rfl) ?_
  refine Rg.mulI 4 F_Mo_addNeed_3 rfl ?_
  refine Rg.step 5 F_Mo_addNeed_4 rfl (fun _ => rfl) ?_
  refine Rg.getf 8 F_Mo_addNeed_5 rfl rF_26_48 (gM hp) rfl ?_
  refine Rg.step 9 F_Mo_addNeed_8 rfl (fun _ => rfl) ?_
  refine Rg.ild 10 F_Mo_addNeed_9 rfl (gR_needs hp) (by omega) (by decide) ?_
  refine Rg.addI 11 F_Mo_addNeed_10 rfl ?_
  refine Rg.step 13 F_Mo_addNeed_11 rfl (fun _ => rfl) ?_
  refine Rg.step 14 F_Mo_addNeed_13 rfl (fun _ => rfl) ?_
  refine Rg.getf 17 F_Mo_addNeed_14 rfl rF_26_51 (gM hp) rfl ?_
  refine Rg.step 19 F_Mo_addNeed_17 rfl (fun _ => rfl) ?_
  refine Rg.step 20 F_Mo_addNeed_19 rfl (fun _ => rfl) ?_
  refine Rg.ist 21 F_Mo_addNeed_20 rfl (gR_needTime hp) (by decide) (sR_needTime hp) (by omega) (by decide) ?_
  refine Rg.step 22 F_Mo_addNeed_21 rfl (fun _ => rfl) ?_
  refine Rg.getf 25 F_Mo_addNeed_22 rfl rF_26_54 (gM hp) rfl ?_
  refine Rg.step 27 F_Mo_addNeed_25 rfl (fun _ => rfl) ?_
  refine Rg.step 28 F_Mo_addNeed_27 rfl (fun _ => rfl) ?_
  refine Rg.ist 29 F_Mo_addNeed_28 rfl (gR_needOf hp) (by decide) (sR_needOf hp) (by omega) (by decide) ?_
  refine Rg.step 30 F_Mo_addNeed_29 rfl (fun _ => rfl) ?_
  refine Rg.getf 33 F_Mo_addNeed_30 rfl rF_26_57 (gM hp) rfl ?_
  refine Rg.step 35 F_Mo_addNeed_33 rfl (fun _ => rfl) ?_
  refine Rg.step 37 F_Mo_addNeed_35 rfl (fun _ => rfl) ?_
  refine Rg.ist 38 F_Mo_addNeed_37 rfl (gR_needHow hp) (by decide) (sR_needHow hp) (by omega) (by decide) ?_
  refine Rg.step 39 F_Mo_addNeed_38 rfl (fun _ => rfl) ?_
  refine Rg.getf 42 F_Mo_addNeed_39 rfl rF_26_60 (gM hp) rfl ?_
  refine Rg.step 44 F_Mo_addNeed_42 rfl (fun _ => rfl) ?_
  refine Rg.step 45 F_Mo_addNeed_44 rfl (fun _ => rfl) ?_
  refine Rg.getf 48 F_Mo_addNeed_45 rfl rF_26_212 (gM hp) rfl ?_
  refine Rg.lst 49 F_Mo_addNeed_48 rfl (gR_needN hp) (by decide) (sR_needN hp) (by omega) (by decide) ?_
  refine Rg.step 50 F_Mo_addNeed_49 rfl (fun _ => rfl) ?_
  refine Rg.getf 53 F_Mo_addNeed_50 rfl rF_26_63 (gM hp) rfl ?_
  refine Rg.step 55 F_Mo_addNeed_53 rfl (fun _ => rfl) ?_
  refine Rg.step 56 F_Mo_addNeed_55 rfl (fun _ => rfl) ?_
  refine Rg.getf 59 F_Mo_addNeed_56 rfl rF_26_7 (gM hp) rfl ?_
  refine Rg.lst 60 F_Mo_addNeed_59 rfl (gR_needD hp) (by decide) (sR_needD hp) (by omega) (by decide) ?_
  refine Rg.step 61 F_Mo_addNeed_60 rfl (fun _ => rfl) ?_
  refine Rg.getf 64 F_Mo_addNeed_61 rfl rF_26_48 (gM hp) rfl ?_
  refine Rg.step 65 F_Mo_addNeed_64 rfl (fun _ => rfl) ?_
  refine Rg.step 66 F_Mo_addNeed_65 rfl (fun _ => rfl) ?_
  refine Rg.ild 67 F_Mo_addNeed_66 rfl (gR_needs hp) (by omega) (by decide) ?_
  refine Rg.step 68 F_Mo_addNeed_67 rfl (fun _ => rfl) ?_
  refine Rg.addI 69 F_Mo_addNeed_68 rfl ?_
  refine Rg.ist 70 F_Mo_addNeed_69 rfl (gR_needs hp) (by decide) (sR_needs hp) (by omega) (by decide) ?_
  exact Rg.retV F_Mo_addNeed_70 rfl rfl
theorem c_Mo_addChange {d : Nat}  (hp : pre.length = 168) {a time of how : Int} (h1 : 0 ≤ a ∧ a < 12) (h2 : 0 ≤ changes a ∧ changes a < 6) : Cg false d m_Mo_addChange [.ref 168, .int (iI a), .int (iI time), .int (iI of), .int (iI how)] (MR pre code amountN amountD momentN momentD epsilonN epsilonD firstFacts firstN firstD wishes wants wantN wantD actions needs needTime needOf needHow needN needD changes changeTime changeOf changeHow changeN changeD lastOf lastN lastD steps stepAction startN startD lengthN lengthD rows row tried triedAction triedRows triedRow times unit facts numN numD oldFacts oldN oldD point judged fault faultPoint toldFacts toldN toldD outN outD pointN pointD gone now leastN leastD greatestN greatestD events post) (.inl none) (MR pre code amountN amountD momentN momentD epsilonN epsilonD firstFacts firstN firstD wishes wants wantN wantD actions needs needTime needOf needHow needN needD (up1 changes a (changes a + 1)) (up1 changeTime (6 * a + changes a) time) (up1 changeOf (6 * a + changes a) of) (up1 changeHow (6 * a + changes a) how) (up1 changeN (6 * a + changes a) amountN) (up1 changeD (6 * a + changes a) amountD) lastOf lastN lastD steps stepAction startN startD lengthN lengthD rows row tried triedAction triedRows triedRow times unit facts numN numD oldFacts oldN oldD point judged fault faultPoint toldFacts toldN toldD outN outD pointN pointD gone now leastN leastD greatestN greatestD events post) := by
  refine Cg.of (Nat.le_of_ble_eq_true rfl) ?_
  change Rg _ _ _ _ 0 [(0, .ref 168), (1, .int (iI a)), (2, .int (iI time)), (3, .int (iI of)), (4, .int (iI how))] [] _ _ _
  refine Rg.bip 2 F_Mo_addChange_0 rfl rfl ?_
  refine Rg.step 3 F_Mo_addChange_2 rfl (fun _ => rfl) ?_
  refine Rg.mulI 4 F_Mo_addChange_3 rfl ?_
  refine Rg.step 5 F_Mo_addChange_4 rfl (fun _ => rfl) ?_
  refine Rg.getf 8 F_Mo_addChange_5 rfl rF_26_66 (gM hp) rfl ?_
  refine Rg.step 9 F_Mo_addChange_8 rfl (fun _ => rfl) ?_
  refine Rg.ild 10 F_Mo_addChange_9 rfl (gR_changes hp) (by omega) (by decide) ?_
  refine Rg.addI 11 F_Mo_addChange_10 rfl ?_
  refine Rg.step 13 F_Mo_addChange_11 rfl (fun _ => rfl) ?_
  refine Rg.step 14 F_Mo_addChange_13 rfl (fun _ => rfl) ?_
  refine Rg.getf 17 F_Mo_addChange_14 rfl rF_26_69 (gM hp) rfl ?_
  refine Rg.step 19 F_Mo_addChange_17 rfl (fun _ => rfl) ?_
  refine Rg.step 20 F_Mo_addChange_19 rfl (fun _ => rfl) ?_
  refine Rg.ist 21 F_Mo_addChange_20 rfl (gR_changeTime hp) (by decide) (sR_changeTime hp) (by omega) (by decide) ?_
  refine Rg.step 22 F_Mo_addChange_21 rfl (fun _ => rfl) ?_
  refine Rg.getf 25 F_Mo_addChange_22 rfl rF_26_72 (gM hp) rfl ?_
  refine Rg.step 27 F_Mo_addChange_25 rfl (fun _ => rfl) ?_
  refine Rg.step 28 F_Mo_addChange_27 rfl (fun _ => rfl) ?_
  refine Rg.ist 29 F_Mo_addChange_28 rfl (gR_changeOf hp) (by decide) (sR_changeOf hp) (by omega) (by decide) ?_
  refine Rg.step 30 F_Mo_addChange_29 rfl (fun _ => rfl) ?_
  refine Rg.getf 33 F_Mo_addChange_30 rfl rF_26_75 (gM hp) rfl ?_
  refine Rg.step 35 F_Mo_addChange_33 rfl (fun _ => rfl) ?_
  refine Rg.step 37 F_Mo_addChange_35 rfl (fun _ => rfl) ?_
  refine Rg.ist 38 F_Mo_addChange_37 rfl (gR_changeHow hp) (by decide) (sR_changeHow hp) (by omega) (by decide) ?_
  refine Rg.step 39 F_Mo_addChange_38 rfl (fun _ => rfl) ?_
  refine Rg.getf 42 F_Mo_addChange_39 rfl rF_26_78 (gM hp) rfl ?_
  refine Rg.step 44 F_Mo_addChange_42 rfl (fun _ => rfl) ?_
  refine Rg.step 45 F_Mo_addChange_44 rfl (fun _ => rfl) ?_
  refine Rg.getf 48 F_Mo_addChange_45 rfl rF_26_212 (gM hp) rfl ?_
  refine Rg.lst 49 F_Mo_addChange_48 rfl (gR_changeN hp) (by decide) (sR_changeN hp) (by omega) (by decide) ?_
  refine Rg.step 50 F_Mo_addChange_49 rfl (fun _ => rfl) ?_
  refine Rg.getf 53 F_Mo_addChange_50 rfl rF_26_81 (gM hp) rfl ?_
  refine Rg.step 55 F_Mo_addChange_53 rfl (fun _ => rfl) ?_
  refine Rg.step 56 F_Mo_addChange_55 rfl (fun _ => rfl) ?_
  refine Rg.getf 59 F_Mo_addChange_56 rfl rF_26_7 (gM hp) rfl ?_
  refine Rg.lst 60 F_Mo_addChange_59 rfl (gR_changeD hp) (by decide) (sR_changeD hp) (by omega) (by decide) ?_
  refine Rg.step 61 F_Mo_addChange_60 rfl (fun _ => rfl) ?_
  refine Rg.getf 64 F_Mo_addChange_61 rfl rF_26_66 (gM hp) rfl ?_
  refine Rg.step 65 F_Mo_addChange_64 rfl (fun _ => rfl) ?_
  refine Rg.step 66 F_Mo_addChange_65 rfl (fun _ => rfl) ?_
  refine Rg.ild 67 F_Mo_addChange_66 rfl (gR_changes hp) (by omega) (by decide) ?_
  refine Rg.step 68 F_Mo_addChange_67 rfl (fun _ => rfl) ?_
  refine Rg.addI 69 F_Mo_addChange_68 rfl ?_
  refine Rg.ist 70 F_Mo_addChange_69 rfl (gR_changes hp) (by decide) (sR_changes hp) (by omega) (by decide) ?_
  exact Rg.retV F_Mo_addChange_70 rfl rfl
theorem changing_loop {d n0 : Nat} (hp : pre.length = 168) {a time of : Int} {F : Prop} (h1 : 0 ≤ a ∧ a < 12) (wc : ∀ k, 0 ≤ changes k ∧ changes k ≤ 6) (wcT : ∀ k, 0 ≤ changeTime k ∧ changeTime k ≤ 2) (wcO : ∀ k, 0 ≤ changeOf k ∧ changeOf k ≤ 15 ∧ (changeHow k ≤ 9 → changeOf k ≤ 7)) (wcH : ∀ k, 0 ≤ changeHow k ∧ changeHow k ≤ 11 ∧ (changeHow k ≤ 3 ∨ 10 ≤ changeHow k)) (b1 : -2147483648 ≤ time ∧ time < 2147483648) (b2 : -2147483648 ≤ of ∧ of < 2147483648) : ∀ (n : Nat) (k : Int), k + n = 6 * a + changes a → 6 * a ≤ k → Rg true d m_Mo_changing n0 6 [(5, .int (iI k)), (0, .ref 168), (1, .int (iI a)), (2, .int (iI time)), (3, .int (bP F)), (4, .int (iI of))] [] (MR pre code amountN amountD momentN momentD epsilonN epsilonD firstFacts firstN firstD wishes wants wantN wantD actions needs needTime needOf needHow needN needD changes changeTime changeOf changeHow changeN changeD lastOf lastN lastD steps stepAction startN startD lengthN lengthD rows row tried triedAction triedRows triedRow times unit facts numN numD oldFacts oldN oldD point judged fault faultPoint toldFacts toldN toldD outN outD pointN pointD gone now leastN leastD greatestN greatestD events post) (.inl (some (.int (iI (fnd (fun k => changeTime k = time ∧ (9 < changeHow k ↔ F) ∧ changeOf k = of) n k))))) (MR pre code amountN amountD momentN momentD epsilonN epsilonD firstFacts firstN firstD wishes wants wantN wantD actions needs needTime needOf needHow needN needD changes changeTime changeOf changeHow changeN changeD lastOf lastN lastD steps stepAction startN startD lengthN lengthD rows row tried triedAction triedRows triedRow times unit facts numN numD oldFacts oldN oldD point judged fault faultPoint toldFacts toldN toldD outN outD pointN pointD gone now leastN leastD greatestN greatestD events post) := by
  intro n
  have c0 := wc a
  induction n with
  | zero =>
    intro k hk hk2
    refine Rg.step 8 F_Mo_changing_6 rfl (fun _ => rfl) ?_
    refine Rg.bip 10 F_Mo_changing_8 rfl rfl ?_
    refine Rg.step 11 F_Mo_changing_10 rfl (fun _ => rfl) ?_
    refine Rg.mulI 12 F_Mo_changing_11 rfl ?_
    refine Rg.step 13 F_Mo_changing_12 rfl (fun _ => rfl) ?_
    refine Rg.getf 16 F_Mo_changing_13 rfl rF_26_66 (gM hp) rfl ?_
    refine Rg.step 17 F_Mo_changing_16 rfl (fun _ => rfl) ?_
    refine Rg.ild 18 F_Mo_changing_17 rfl (gR_changes hp) (by omega) (by decide) ?_
    refine Rg.addI 19 F_Mo_changing_18 rfl ?_
    refine Rg.icgeI 75 22 F_Mo_changing_19 rfl rfl (by omega) (by omega) (fun _ => ?_) (fun h19 => by omega)
    refine Rg.step 76 F_Mo_changing_75 rfl (fun _ => rfl) ?_
    exact Rg.retI F_Mo_changing_76 rfl rfl rfl
  | succ n ih =>
    intro k hk hk2
    have c1 := wcT k
    have c2 := wcO k
    have c3 := wcH k
    refine Rg.step 8 F_Mo_changing_6 rfl (fun _ => rfl) ?_
    refine Rg.bip 10 F_Mo_changing_8 rfl rfl ?_
    refine Rg.step 11 F_Mo_changing_10 rfl (fun _ => rfl) ?_
    refine Rg.mulI 12 F_Mo_changing_11 rfl ?_
    refine Rg.step 13 F_Mo_changing_12 rfl (fun _ => rfl) ?_
    refine Rg.getf 16 F_Mo_changing_13 rfl rF_26_66 (gM hp) rfl ?_
    refine Rg.step 17 F_Mo_changing_16 rfl (fun _ => rfl) ?_
    refine Rg.ild 18 F_Mo_changing_17 rfl (gR_changes hp) (by omega) (by decide) ?_
    refine Rg.addI 19 F_Mo_changing_18 rfl ?_
    refine Rg.icgeI 75 22 F_Mo_changing_19 rfl rfl (by omega) (by omega) (fun h19 => by omega) (fun _ => ?_)
    refine Rg.step 23 F_Mo_changing_22 rfl (fun _ => rfl) ?_
    refine Rg.getf 26 F_Mo_changing_23 rfl rF_26_69 (gM hp) rfl ?_
    refine Rg.step 28 F_Mo_changing_26 rfl (fun _ => rfl) ?_
    refine Rg.ild 29 F_Mo_changing_28 rfl (gR_changeTime hp) (by omega) (by decide) ?_
    refine Rg.step 30 F_Mo_changing_29 rfl (fun _ => rfl) ?_
    refine Rg.icneI 69 33 F_Mo_changing_30 rfl rfl (by omega) (by omega) (fun h30 => ?_) (fun h30 => ?_)
    · refine Rg.inc 72 F_Mo_changing_69 rfl rfl (by decide) ?_
      refine Rg.step 6 F_Mo_changing_72 rfl (fun _ => rfl) ?_
      rw [fnd_f (fun z => h30 z.1)]
      exact Rg.weak (ih (k + 1) (by omega) (by omega)) (by simp [lput1, lput2, Value.category, fi0, fi1, fi2, fi3] <;> first | rfl | exact ⟨rfl, rfl⟩) (by simp [lput1, lput2, Value.category, fi0, fi1, fi2, fi3] <;> first | rfl | exact ⟨rfl, rfl⟩)
    · refine Rg.step 34 F_Mo_changing_33 rfl (fun _ => rfl) ?_
      refine Rg.getf 37 F_Mo_changing_34 rfl rF_26_75 (gM hp) rfl ?_
      refine Rg.step 39 F_Mo_changing_37 rfl (fun _ => rfl) ?_
      refine Rg.ild 40 F_Mo_changing_39 rfl (gR_changeHow hp) (by omega) (by decide) ?_
      refine Rg.bip 42 F_Mo_changing_40 rfl rfl ?_
      refine Rg.icleI 49 45 F_Mo_changing_42 rfl rfl (by omega) (by omega) (fun h42 => ?_) (fun h42 => ?_)
      · refine Rg.cP0 (B := (9 < changeHow k)) 50 F_Mo_changing_49 rfl (by omega) ?_
        refine Rg.step 51 F_Mo_changing_50 rfl (fun _ => rfl) ?_
        refine Rg.icneP 69 54 F_Mo_changing_51 rfl rfl (fun h51 => ?_) (fun h51 => ?_)
        · refine Rg.inc 72 F_Mo_changing_69 rfl rfl (by decide) ?_
          refine Rg.step 6 F_Mo_changing_72 rfl (fun _ => rfl) ?_
          rw [fnd_f (fun z => h51 z.2.1)]
          exact Rg.weak (ih (k + 1) (by omega) (by omega)) (by simp [lput1, lput2, Value.category, fi0, fi1, fi2, fi3] <;> first | rfl | exact ⟨rfl, rfl⟩) (by simp [lput1, lput2, Value.category, fi0, fi1, fi2, fi3] <;> first | rfl | exact ⟨rfl, rfl⟩)
        · refine Rg.step 55 F_Mo_changing_54 rfl (fun _ => rfl) ?_
          refine Rg.getf 58 F_Mo_changing_55 rfl rF_26_72 (gM hp) rfl ?_
          refine Rg.step 60 F_Mo_changing_58 rfl (fun _ => rfl) ?_
          refine Rg.ild 61 F_Mo_changing_60 rfl (gR_changeOf hp) (by omega) (by decide) ?_
          refine Rg.step 63 F_Mo_changing_61 rfl (fun _ => rfl) ?_
          refine Rg.icneI 69 66 F_Mo_changing_63 rfl rfl (by omega) (by omega) (fun h63 => ?_) (fun h63 => ?_)
          · refine Rg.inc 72 F_Mo_changing_69 rfl rfl (by decide) ?_
            refine Rg.step 6 F_Mo_changing_72 rfl (fun _ => rfl) ?_
            rw [fnd_f (fun z => h63 z.2.2)]
            exact Rg.weak (ih (k + 1) (by omega) (by omega)) (by simp [lput1, lput2, Value.category, fi0, fi1, fi2, fi3] <;> first | rfl | exact ⟨rfl, rfl⟩) (by simp [lput1, lput2, Value.category, fi0, fi1, fi2, fi3] <;> first | rfl | exact ⟨rfl, rfl⟩)
          · refine Rg.step 68 F_Mo_changing_66 rfl (fun _ => rfl) ?_
            exact Rg.retI F_Mo_changing_68 rfl (fnd_t ⟨h30, h51, h63⟩).symm rfl
      · refine Rg.cP1 (B := (9 < changeHow k)) 46 F_Mo_changing_45 rfl (by omega) ?_
        refine Rg.step 50 F_Mo_changing_46 rfl (fun _ => rfl) ?_
        refine Rg.step 51 F_Mo_changing_50 rfl (fun _ => rfl) ?_
        refine Rg.icneP 69 54 F_Mo_changing_51 rfl rfl (fun h51 => ?_) (fun h51 => ?_)
        · refine Rg.inc 72 F_Mo_changing_69 rfl rfl (by decide) ?_
          refine Rg.step 6 F_Mo_changing_72 rfl (fun _ => rfl) ?_
          rw [fnd_f (fun z => h51 z.2.1)]
          exact Rg.weak (ih (k + 1) (by omega) (by omega)) (by simp [lput1, lput2, Value.category, fi0, fi1, fi2, fi3] <;> first | rfl | exact ⟨rfl, rfl⟩) (by simp [lput1, lput2, Value.category, fi0, fi1, fi2, fi3] <;> first | rfl | exact ⟨rfl, rfl⟩)
        · refine Rg.step 55 F_Mo_changing_54 rfl (fun _ => rfl) ?_
          refine Rg.getf 58 F_Mo_changing_55 rfl rF_26_72 (gM hp) rfl ?_
          refine Rg.step 60 F_Mo_changing_58 rfl (fun _ => rfl) ?_
          refine Rg.ild 61 F_Mo_changing_60 rfl (gR_changeOf hp) (by omega) (by decide) ?_
          refine Rg.step 63 F_Mo_changing_61 rfl (fun _ => rfl) ?_
          refine Rg.icneI 69 66 F_Mo_changing_63 rfl rfl (by omega) (by omega) (fun h63 => ?_) (fun h63 => ?_)
          · refine Rg.inc 72 F_Mo_changing_69 rfl rfl (by decide) ?_
            refine Rg.step 6 F_Mo_changing_72 rfl (fun _ => rfl) ?_
            rw [fnd_f (fun z => h63 z.2.2)]
            exact Rg.weak (ih (k + 1) (by omega) (by omega)) (by simp [lput1, lput2, Value.category, fi0, fi1, fi2, fi3] <;> first | rfl | exact ⟨rfl, rfl⟩) (by simp [lput1, lput2, Value.category, fi0, fi1, fi2, fi3] <;> first | rfl | exact ⟨rfl, rfl⟩)
          · refine Rg.step 68 F_Mo_changing_66 rfl (fun _ => rfl) ?_
            exact Rg.retI F_Mo_changing_68 rfl (fnd_t ⟨h30, h51, h63⟩).symm rfl
theorem c_Mo_changing {d : Nat}  (hp : pre.length = 168) {a time of : Int} {F : Prop} (h1 : 0 ≤ a ∧ a < 12) (wc : ∀ k, 0 ≤ changes k ∧ changes k ≤ 6) (wcT : ∀ k, 0 ≤ changeTime k ∧ changeTime k ≤ 2) (wcO : ∀ k, 0 ≤ changeOf k ∧ changeOf k ≤ 15 ∧ (changeHow k ≤ 9 → changeOf k ≤ 7)) (wcH : ∀ k, 0 ≤ changeHow k ∧ changeHow k ≤ 11 ∧ (changeHow k ≤ 3 ∨ 10 ≤ changeHow k)) (b1 : -2147483648 ≤ time ∧ time < 2147483648) (b2 : -2147483648 ≤ of ∧ of < 2147483648) : Cg true d m_Mo_changing [.ref 168, .int (iI a), .int (iI time), .int (bP F), .int (iI of)] (MR pre code amountN amountD momentN momentD epsilonN epsilonD firstFacts firstN firstD wishes wants wantN wantD actions needs needTime needOf needHow needN needD changes changeTime changeOf changeHow changeN changeD lastOf lastN lastD steps stepAction startN startD lengthN lengthD rows row tried triedAction triedRows triedRow times unit facts numN numD oldFacts oldN oldD point judged fault faultPoint toldFacts toldN toldD outN outD pointN pointD gone now leastN leastD greatestN greatestD events post) (.inl (some (.int (iI (chg changes changeTime changeHow changeOf a time F of))))) (MR pre code amountN amountD momentN momentD epsilonN epsilonD firstFacts firstN firstD wishes wants wantN wantD actions needs needTime needOf needHow needN needD changes changeTime changeOf changeHow changeN changeD lastOf lastN lastD steps stepAction startN startD lengthN lengthD rows row tried triedAction triedRows triedRow times unit facts numN numD oldFacts oldN oldD point judged fault faultPoint toldFacts toldN toldD outN outD pointN pointD gone now leastN leastD greatestN greatestD events post) := by
  refine Cg.of (Nat.le_of_ble_eq_true rfl) ?_
  change Rg _ _ _ _ 0 [(0, .ref 168), (1, .int (iI a)), (2, .int (iI time)), (3, .int (bP F)), (4, .int (iI of))] [] _ _ _
  refine Rg.bip 2 F_Mo_changing_0 rfl rfl ?_
  refine Rg.step 3 F_Mo_changing_2 rfl (fun _ => rfl) ?_
  refine Rg.mulI 4 F_Mo_changing_3 rfl ?_
  refine Rg.step 6 F_Mo_changing_4 rfl (fun _ => rfl) ?_
  have c0 := wc a
  exact Rg.weak (changing_loop hp h1 wc wcT wcO wcH b1 b2 (changes a).toNat (6 * a) (by omega) (by omega)) (by simp [lput1, lput2, Value.category, fi0, fi1, fi2, fi3] <;> first | rfl | exact ⟨rfl, rfl⟩) (by simp [lput1, lput2, Value.category, fi0, fi1, fi2, fi3] <;> first | rfl | exact ⟨rfl, rfl⟩)
end R43
