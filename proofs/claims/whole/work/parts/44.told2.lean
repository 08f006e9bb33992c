/-! The reference: what it is told, and asked. -/
def inRow (row : Int → Int) (rows p : Int) : Prop := ∃ j, 0 ≤ j ∧ j < rows ∧ row j = p
section R44
variable {pre post mem : AM}
variable {code amountN amountD momentN momentD epsilonN epsilonD actions steps rows tried triedRows unit point judged fault faultPoint outN outD : Int}
variable {firstN firstD wishes wants wantN wantD needs needTime needOf needHow needN needD changes changeTime changeOf changeHow changeN changeD lastOf lastN lastD stepAction startN startD lengthN lengthD row triedAction triedRow times numN numD oldN oldD toldN toldD pointN pointD leastN leastD greatestN greatestD events : Int → Int}
variable {firstFacts facts oldFacts toldFacts gone now : Int → Prop}
theorem c_Mo_need_t {d : Nat}  (hp : pre.length = 168) {a time f : Int} {v : Prop} (wA : 0 ≤ actions ∧ actions ≤ 12) (wn : ∀ k, 0 ≤ needs k ∧ needs k ≤ 8) (b_0 : -2147483648 ≤ a ∧ a < 2147483648) (b_1 : -2147483648 ≤ time ∧ time < 2147483648) (b_2 : -2147483648 ≤ f ∧ f < 2147483648) (h1 : 0 ≤ a ∧ a ≤ actions - 1) (h2 : 0 ≤ f ∧ f ≤ 15) (h3 : 0 ≤ time ∧ time ≤ 2) (h4 : ¬ needs a = 8) (hv : v) : Cg false (d + 2) m_Mo_need [.ref 168, .int (iI a), .int (iI time), .int (iI f), .int (bP v)] (MR pre code amountN amountD momentN momentD epsilonN epsilonD firstFacts firstN firstD wishes wants wantN wantD actions needs needTime needOf needHow needN needD changes changeTime changeOf changeHow changeN changeD lastOf lastN lastD steps stepAction startN startD lengthN lengthD rows row tried triedAction triedRows triedRow times unit facts numN numD oldFacts oldN oldD point judged fault faultPoint toldFacts toldN toldD outN outD pointN pointD gone now leastN leastD greatestN greatestD events post) (.inl none) (MR pre 0 amountN amountD momentN momentD epsilonN epsilonD firstFacts firstN firstD wishes wants wantN wantD actions (up1 needs a (needs a + 1)) (up1 needTime (8 * a + needs a) time) (up1 needOf (8 * a + needs a) f) (up1 needHow (8 * a + needs a) 11) (up1 needN (8 * a + needs a) amountN) (up1 needD (8 * a + needs a) amountD) changes changeTime changeOf changeHow changeN changeD lastOf lastN lastD steps stepAction startN startD lengthN lengthD rows row tried triedAction triedRows triedRow times unit facts numN numD oldFacts oldN oldD point judged fault faultPoint toldFacts toldN toldD outN outD pointN pointD gone now leastN leastD greatestN greatestD events post) := by
  have c0 := wn a
  refine Cg.of (Nat.le_of_ble_eq_true rfl) ?_
  change Rg _ _ _ _ 0 [(0, .ref 168), (1, .int (iI a)), (2, .int (iI time)), (3, .int (iI f)), (4, .int (bP v))] [] _ _ _
  refine Rg.step 1 F_Mo_need_0 rfl (fun _ => rfl) ?_
  refine Rg.step 2 F_Mo_need_1 rfl (fun _ => rfl) ?_
  refine Rg.step 3 F_Mo_need_2 rfl (fun _ => rfl) ?_
  refine Rg.call 6 F_Mo_need_3 rfl (one_V rM_26_228 (by decide) (by simp) rfl rfl (gM hp) rfl) (Nat.le_of_ble_eq_true rfl) (Cg.any (c_Mo_isAction hp wA (by omega))) ?_
  refine Rg.ifeqP 16 9 F_Mo_need_6 rfl rfl (fun h6 => by omega) (fun _ => ?_)
  refine Rg.step 10 F_Mo_need_9 rfl (fun _ => rfl) ?_
  refine Rg.call 13 F_Mo_need_10 rfl (one_S (by decide +kernel) rM_26_221 (by decide) (by simp) rfl rfl) (Nat.le_of_ble_eq_true rfl) (Cg.any (c_Mo_isFact (by omega))) ?_
  refine Rg.ifneP 20 16 F_Mo_need_13 rfl rfl (fun _ => ?_) (fun h13 => by omega)
  refine Rg.step 21 F_Mo_need_20 rfl (fun _ => rfl) ?_
  refine Rg.step 22 F_Mo_need_21 rfl (fun _ => rfl) ?_
  refine Rg.step 23 F_Mo_need_22 rfl (fun _ => rfl) ?_
  refine Rg.call 26 F_Mo_need_23 rfl (one_S (by decide +kernel) rM_26_200 (by decide) (by simp) rfl rfl) (Nat.le_of_ble_eq_true rfl) (Cg.any (c_Mo_in (by omega) (by omega) (by omega))) ?_
  refine Rg.ifneP 33 29 F_Mo_need_26 rfl rfl (fun _ => ?_) (fun h26 => by omega)
  refine Rg.step 34 F_Mo_need_33 rfl (fun _ => rfl) ?_
  refine Rg.getf 37 F_Mo_need_34 rfl rF_26_48 (gM hp) rfl ?_
  refine Rg.step 38 F_Mo_need_37 rfl (fun _ => rfl) ?_
  refine Rg.ild 39 F_Mo_need_38 rfl (gR_needs hp) (by omega) (by decide) ?_
  refine Rg.bip 41 F_Mo_need_39 rfl rfl ?_
  refine Rg.icneI 48 44 F_Mo_need_41 rfl rfl (by omega) (by omega) (fun _ => ?_) (fun h41 => by omega)
  refine Rg.step 49 F_Mo_need_48 rfl (fun _ => rfl) ?_
  refine Rg.put 52 F_Mo_need_49 rfl rF_26_178 (gM hp) (by decide) (Nat.le_of_ble_eq_true rfl) (Or.inl rfl) rfl (sM_code hp) ?_
  refine Rg.step 53 F_Mo_need_52 rfl (fun _ => rfl) ?_
  refine Rg.getf 56 F_Mo_need_53 rfl rF_26_178 (gM hp) rfl ?_
  refine Rg.ifne 78 59 F_Mo_need_56 rfl rfl (fun h56 => absurd h56 (by decide)) (fun _ => ?_)
  refine Rg.step 60 F_Mo_need_59 rfl (fun _ => rfl) ?_
  refine Rg.step 61 F_Mo_need_60 rfl (fun _ => rfl) ?_
  refine Rg.step 62 F_Mo_need_61 rfl (fun _ => rfl) ?_
  refine Rg.step 63 F_Mo_need_62 rfl (fun _ => rfl) ?_
  refine Rg.step 65 F_Mo_need_63 rfl (fun _ => rfl) ?_
  refine Rg.ifeqP 73 68 F_Mo_need_65 rfl rfl (fun h65 => absurd hv h65) (fun _ => ?_)
  refine Rg.bip 70 F_Mo_need_68 rfl rfl ?_
  refine Rg.step 75 F_Mo_need_70 rfl (fun _ => rfl) ?_
  refine Rg.call 78 F_Mo_need_75 rfl (one_V rM_26_231 (by decide) (by simp) rfl rfl (gM hp) rfl) (Nat.le_of_ble_eq_true rfl) (c_Mo_addNeed hp (by omega) (by omega)) ?_
  exact Rg.retV F_Mo_need_78 rfl rfl
theorem c_Mo_need_f {d : Nat}  (hp : pre.length = 168) {a time f : Int} {v : Prop} (wA : 0 ≤ actions ∧ actions ≤ 12) (wn : ∀ k, 0 ≤ needs k ∧ needs k ≤ 8) (b_0 : -2147483648 ≤ a ∧ a < 2147483648) (b_1 : -2147483648 ≤ time ∧ time < 2147483648) (b_2 : -2147483648 ≤ f ∧ f < 2147483648) (h1 : 0 ≤ a ∧ a ≤ actions - 1) (h2 : 0 ≤ f ∧ f ≤ 15) (h3 : 0 ≤ time ∧ time ≤ 2) (h4 : ¬ needs a = 8) (hv : ¬ v) : Cg false (d + 2) m_Mo_need [.ref 168, .int (iI a), .int (iI time), .int (iI f), .int (bP v)] (MR pre code amountN amountD momentN momentD epsilonN epsilonD firstFacts firstN firstD wishes wants wantN wantD actions needs needTime needOf needHow needN needD changes changeTime changeOf changeHow changeN changeD lastOf lastN lastD steps stepAction startN startD lengthN lengthD rows row tried triedAction triedRows triedRow times unit facts numN numD oldFacts oldN oldD point judged fault faultPoint toldFacts toldN toldD outN outD pointN pointD gone now leastN leastD greatestN greatestD events post) (.inl none) (MR pre 0 amountN amountD momentN momentD epsilonN epsilonD firstFacts firstN firstD wishes wants wantN wantD actions (up1 needs a (needs a + 1)) (up1 needTime (8 * a + needs a) time) (up1 needOf (8 * a + needs a) f) (up1 needHow (8 * a + needs a) 10) (up1 needN (8 * a + needs a) amountN) (up1 needD (8 * a + needs a) amountD) changes changeTime changeOf changeHow changeN changeD lastOf lastN lastD steps stepAction startN startD lengthN lengthD rows row tried triedAction triedRows triedRow times unit facts numN numD oldFacts oldN oldD point judged fault faultPoint toldFacts toldN toldD outN outD pointN pointD gone now leastN leastD greatestN greatestD events post) := by
  have c0 := wn a
  refine Cg.of (Nat.le_of_ble_eq_true rfl) ?_
  change Rg _ _ _ _ 0 [(0, .ref 168), (1, .int (iI a)), (2, .int (iI time)), (3, .int (iI f)), (4, .int (bP v))] [] _ _ _
  refine Rg.step 1 F_Mo_need_0 rfl (fun _ => rfl) ?_
  refine Rg.step 2 F_Mo_need_1 rfl (fun _ => rfl) ?_
  refine Rg.step 3 F_Mo_need_2 rfl (fun _ => rfl) ?_
  refine Rg.call 6 F_Mo_need_3 rfl (one_V rM_26_228 (by decide) (by simp) rfl rfl (gM hp) rfl) (Nat.le_of_ble_eq_true rfl) (Cg.any (c_Mo_isAction hp wA (by omega))) ?_
  refine Rg.ifeqP 16 9 F_Mo_need_6 rfl rfl (fun h6 => by omega) (fun _ => ?_)
  refine Rg.step 10 F_Mo_need_9 rfl (fun _ => rfl) ?_
  refine Rg.call 13 F_Mo_need_10 rfl (one_S (by decide +kernel) rM_26_221 (by decide) (by simp) rfl rfl) (Nat.le_of_ble_eq_true rfl) (Cg.any (c_Mo_isFact (by omega))) ?_
  refine Rg.ifneP 20 16 F_Mo_need_13 rfl rfl (fun _ => ?_) (fun h13 => by omega)
  refine Rg.step 21 F_Mo_need_20 rfl (fun _ => rfl) ?_
  refine Rg.step 22 F_Mo_need_21 rfl (fun _ => rfl) ?_
  refine Rg.step 23 F_Mo_need_22 rfl (fun _ => rfl) ?_
  refine Rg.call 26 F_Mo_need_23 rfl (one_S (by decide +kernel) rM_26_200 (by decide) (by simp) rfl rfl) (Nat.le_of_ble_eq_true rfl) (Cg.any (c_Mo_in (by omega) (by omega) (by omega))) ?_
  refine Rg.ifneP 33 29 F_Mo_need_26 rfl rfl (fun _ => ?_) (fun h26 => by omega)
  refine Rg.step 34 F_Mo_need_33 rfl (fun _ => rfl) ?_
  refine Rg.getf 37 F_Mo_need_34 rfl rF_26_48 (gM hp) rfl ?_
  refine Rg.step 38 F_Mo_need_37 rfl (fun _ => rfl) ?_
  refine Rg.ild 39 F_Mo_need_38 rfl (gR_needs hp) (by omega) (by decide) ?_
  refine Rg.bip 41 F_Mo_need_39 rfl rfl ?_
  refine Rg.icneI 48 44 F_Mo_need_41 rfl rfl (by omega) (by omega) (fun _ => ?_) (fun h41 => by omega)
  refine Rg.step 49 F_Mo_need_48 rfl (fun _ => rfl) ?_
  refine Rg.put 52 F_Mo_need_49 rfl rF_26_178 (gM hp) (by decide) (Nat.le_of_ble_eq_true rfl) (Or.inl rfl) rfl (sM_code hp) ?_
  refine Rg.step 53 F_Mo_need_52 rfl (fun _ => rfl) ?_
  refine Rg.getf 56 F_Mo_need_53 rfl rF_26_178 (gM hp) rfl ?_
  refine Rg.ifne 78 59 F_Mo_need_56 rfl rfl (fun h56 => absurd h56 (by decide)) (fun _ => ?_)
  refine Rg.step 60 F_Mo_need_59 rfl (fun _ => rfl) ?_
  refine Rg.step 61 F_Mo_need_60 rfl (fun _ => rfl) ?_
  refine Rg.step 62 F_Mo_need_61 rfl (fun _ => rfl) ?_
  refine Rg.step 63 F_Mo_need_62 rfl (fun _ => rfl) ?_
  refine Rg.step 65 F_Mo_need_63 rfl (fun _ => rfl) ?_
  refine Rg.ifeqP 73 68 F_Mo_need_65 rfl rfl (fun _ => ?_) (fun h65 => absurd h65 hv)
  refine Rg.bip 75 F_Mo_need_73 rfl rfl ?_
  refine Rg.call 78 F_Mo_need_75 rfl (one_V rM_26_231 (by decide) (by simp) rfl rfl (gM hp) rfl) (Nat.le_of_ble_eq_true rfl) (c_Mo_addNeed hp (by omega) (by omega)) ?_
  exact Rg.retV F_Mo_need_78 rfl rfl
theorem c_Mo_need1 {d : Nat}  (hp : pre.length = 168) {a time f : Int} {v : Prop} (wA : 0 ≤ actions ∧ actions ≤ 12) (wn : ∀ k, 0 ≤ needs k ∧ needs k ≤ 8) (b_0 : -2147483648 ≤ a ∧ a < 2147483648) (b_1 : -2147483648 ≤ time ∧ time < 2147483648) (b_2 : -2147483648 ≤ f ∧ f < 2147483648) (h1 : ¬ (0 ≤ a ∧ a ≤ actions - 1) ∨ ¬ (0 ≤ f ∧ f ≤ 15)) : Cg false (d + 2) m_Mo_need [.ref 168, .int (iI a), .int (iI time), .int (iI f), .int (bP v)] (MR pre code amountN amountD momentN momentD epsilonN epsilonD firstFacts firstN firstD wishes wants wantN wantD actions needs needTime needOf needHow needN needD changes changeTime changeOf changeHow changeN changeD lastOf lastN lastD steps stepAction startN startD lengthN lengthD rows row tried triedAction triedRows triedRow times unit facts numN numD oldFacts oldN oldD point judged fault faultPoint toldFacts toldN toldD outN outD pointN pointD gone now leastN leastD greatestN greatestD events post) (.inl none) (MR pre 1 amountN amountD momentN momentD epsilonN epsilonD firstFacts firstN firstD wishes wants wantN wantD actions needs needTime needOf needHow needN needD changes changeTime changeOf changeHow changeN changeD lastOf lastN lastD steps stepAction startN startD lengthN lengthD rows row tried triedAction triedRows triedRow times unit facts numN numD oldFacts oldN oldD point judged fault faultPoint toldFacts toldN toldD outN outD pointN pointD gone now leastN leastD greatestN greatestD events post) := by
  refine Cg.of (Nat.le_of_ble_eq_true rfl) ?_
  change Rg _ _ _ _ 0 [(0, .ref 168), (1, .int (iI a)), (2, .int (iI time)), (3, .int (iI f)), (4, .int (bP v))] [] _ _ _
  refine Rg.step 1 F_Mo_need_0 rfl (fun _ => rfl) ?_
  refine Rg.step 2 F_Mo_need_1 rfl (fun _ => rfl) ?_
  refine Rg.step 3 F_Mo_need_2 rfl (fun _ => rfl) ?_
  refine Rg.call 6 F_Mo_need_3 rfl (one_V rM_26_228 (by decide) (by simp) rfl rfl (gM hp) rfl) (Nat.le_of_ble_eq_true rfl) (Cg.any (c_Mo_isAction hp wA (by omega))) ?_
  refine Rg.ifeqP 16 9 F_Mo_need_6 rfl rfl (fun h6 => ?_) (fun h6 => ?_)
  · refine Rg.step 17 F_Mo_need_16 rfl (fun _ => rfl) ?_
    refine Rg.step 49 F_Mo_need_17 rfl (fun _ => rfl) ?_
    refine Rg.put 52 F_Mo_need_49 rfl rF_26_178 (gM hp) (by decide) (Nat.le_of_ble_eq_true rfl) (Or.inl rfl) rfl (sM_code hp) ?_
    refine Rg.step 53 F_Mo_need_52 rfl (fun _ => rfl) ?_
    refine Rg.getf 56 F_Mo_need_53 rfl rF_26_178 (gM hp) rfl ?_
    refine Rg.ifne 78 59 F_Mo_need_56 rfl rfl (fun _ => ?_) (fun h56 => absurd h56 (by decide))
    exact Rg.retV F_Mo_need_78 rfl rfl
  · refine Rg.step 10 F_Mo_need_9 rfl (fun _ => rfl) ?_
    refine Rg.call 13 F_Mo_need_10 rfl (one_S (by decide +kernel) rM_26_221 (by decide) (by simp) rfl rfl) (Nat.le_of_ble_eq_true rfl) (Cg.any (c_Mo_isFact (by omega))) ?_
    refine Rg.ifneP 20 16 F_Mo_need_13 rfl rfl (fun h13 => by omega) (fun _ => ?_)
    refine Rg.step 17 F_Mo_need_16 rfl (fun _ => rfl) ?_
    refine Rg.step 49 F_Mo_need_17 rfl (fun _ => rfl) ?_
    refine Rg.put 52 F_Mo_need_49 rfl rF_26_178 (gM hp) (by decide) (Nat.le_of_ble_eq_true rfl) (Or.inl rfl) rfl (sM_code hp) ?_
    refine Rg.step 53 F_Mo_need_52 rfl (fun _ => rfl) ?_
    refine Rg.getf 56 F_Mo_need_53 rfl rF_26_178 (gM hp) rfl ?_
    refine Rg.ifne 78 59 F_Mo_need_56 rfl rfl (fun _ => ?_) (fun h56 => absurd h56 (by decide))
    exact Rg.retV F_Mo_need_78 rfl rfl
theorem c_Mo_need2 {d : Nat}  (hp : pre.length = 168) {a time f : Int} {v : Prop} (wA : 0 ≤ actions ∧ actions ≤ 12) (wn : ∀ k, 0 ≤ needs k ∧ needs k ≤ 8) (b_0 : -2147483648 ≤ a ∧ a < 2147483648) (b_1 : -2147483648 ≤ time ∧ time < 2147483648) (b_2 : -2147483648 ≤ f ∧ f < 2147483648) (h1 : 0 ≤ a ∧ a ≤ actions - 1) (h2 : 0 ≤ f ∧ f ≤ 15) (h3 : ¬ (0 ≤ time ∧ time ≤ 2)) : Cg false (d + 2) m_Mo_need [.ref 168, .int (iI a), .int (iI time), .int (iI f), .int (bP v)] (MR pre code amountN amountD momentN momentD epsilonN epsilonD firstFacts firstN firstD wishes wants wantN wantD actions needs needTime needOf needHow needN needD changes changeTime changeOf changeHow changeN changeD lastOf lastN lastD steps stepAction startN startD lengthN lengthD rows row tried triedAction triedRows triedRow times unit facts numN numD oldFacts oldN oldD point judged fault faultPoint toldFacts toldN toldD outN outD pointN pointD gone now leastN leastD greatestN greatestD events post) (.inl none) (MR pre 2 amountN amountD momentN momentD epsilonN epsilonD firstFacts firstN firstD wishes wants wantN wantD actions needs needTime needOf needHow needN needD changes changeTime changeOf changeHow changeN changeD lastOf lastN lastD steps stepAction startN startD lengthN lengthD rows row tried triedAction triedRows triedRow times unit facts numN numD oldFacts oldN oldD point judged fault faultPoint toldFacts toldN toldD outN outD pointN pointD gone now leastN leastD greatestN greatestD events post) := by
  refine Cg.of (Nat.le_of_ble_eq_true rfl) ?_
  change Rg _ _ _ _ 0 [(0, .ref 168), (1, .int (iI a)), (2, .int (iI time)), (3, .int (iI f)), (4, .int (bP v))] [] _ _ _
  refine Rg.step 1 F_Mo_need_0 rfl (fun _ => rfl) ?_
  refine Rg.step 2 F_Mo_need_1 rfl (fun _ => rfl) ?_
  refine Rg.step 3 F_Mo_need_2 rfl (fun _ => rfl) ?_
  refine Rg.call 6 F_Mo_need_3 rfl (one_V rM_26_228 (by decide) (by simp) rfl rfl (gM hp) rfl) (Nat.le_of_ble_eq_true rfl) (Cg.any (c_Mo_isAction hp wA (by omega))) ?_
  refine Rg.ifeqP 16 9 F_Mo_need_6 rfl rfl (fun h6 => by omega) (fun _ => ?_)
  refine Rg.step 10 F_Mo_need_9 rfl (fun _ => rfl) ?_
  refine Rg.call 13 F_Mo_need_10 rfl (one_S (by decide +kernel) rM_26_221 (by decide) (by simp) rfl rfl) (Nat.le_of_ble_eq_true rfl) (Cg.any (c_Mo_isFact (by omega))) ?_
  refine Rg.ifneP 20 16 F_Mo_need_13 rfl rfl (fun _ => ?_) (fun h13 => by omega)
  refine Rg.step 21 F_Mo_need_20 rfl (fun _ => rfl) ?_
  refine Rg.step 22 F_Mo_need_21 rfl (fun _ => rfl) ?_
  refine Rg.step 23 F_Mo_need_22 rfl (fun _ => rfl) ?_
  refine Rg.call 26 F_Mo_need_23 rfl (one_S (by decide +kernel) rM_26_200 (by decide) (by simp) rfl rfl) (Nat.le_of_ble_eq_true rfl) (Cg.any (c_Mo_in (by omega) (by omega) (by omega))) ?_
  refine Rg.ifneP 33 29 F_Mo_need_26 rfl rfl (fun h26 => by omega) (fun _ => ?_)
  refine Rg.step 30 F_Mo_need_29 rfl (fun _ => rfl) ?_
  refine Rg.step 49 F_Mo_need_30 rfl (fun _ => rfl) ?_
  refine Rg.put 52 F_Mo_need_49 rfl rF_26_178 (gM hp) (by decide) (Nat.le_of_ble_eq_true rfl) (Or.inl rfl) rfl (sM_code hp) ?_
  refine Rg.step 53 F_Mo_need_52 rfl (fun _ => rfl) ?_
  refine Rg.getf 56 F_Mo_need_53 rfl rF_26_178 (gM hp) rfl ?_
  refine Rg.ifne 78 59 F_Mo_need_56 rfl rfl (fun _ => ?_) (fun h56 => absurd h56 (by decide))
  exact Rg.retV F_Mo_need_78 rfl rfl
theorem c_Mo_need3 {d : Nat}  (hp : pre.length = 168) {a time f : Int} {v : Prop} (wA : 0 ≤ actions ∧ actions ≤ 12) (wn : ∀ k, 0 ≤ needs k ∧ needs k ≤ 8) (b_0 : -2147483648 ≤ a ∧ a < 2147483648) (b_1 : -2147483648 ≤ time ∧ time < 2147483648) (b_2 : -2147483648 ≤ f ∧ f < 2147483648) (h1 : 0 ≤ a ∧ a ≤ actions - 1) (h2 : 0 ≤ f ∧ f ≤ 15) (h3 : 0 ≤ time ∧ time ≤ 2) (h4 : needs a = 8) : Cg false (d + 2) m_Mo_need [.ref 168, .int (iI a), .int (iI time), .int (iI f), .int (bP v)] (MR pre code amountN amountD momentN momentD epsilonN epsilonD firstFacts firstN firstD wishes wants wantN wantD actions needs needTime needOf needHow needN needD changes changeTime changeOf changeHow changeN changeD lastOf lastN lastD steps stepAction startN startD lengthN lengthD rows row tried triedAction triedRows triedRow times unit facts numN numD oldFacts oldN oldD point judged fault faultPoint toldFacts toldN toldD outN outD pointN pointD gone now leastN leastD greatestN greatestD events post) (.inl none) (MR pre 3 amountN amountD momentN momentD epsilonN epsilonD firstFacts firstN firstD wishes wants wantN wantD actions needs needTime needOf needHow needN needD changes changeTime changeOf changeHow changeN changeD lastOf lastN lastD steps stepAction startN startD lengthN lengthD rows row tried triedAction triedRows triedRow times unit facts numN numD oldFacts oldN oldD point judged fault faultPoint toldFacts toldN toldD outN outD pointN pointD gone now leastN leastD greatestN greatestD events post) := by
  have c0 := wn a
  refine Cg.of (Nat.le_of_ble_eq_true rfl) ?_
  change Rg _ _ _ _ 0 [(0, .ref 168), (1, .int (iI a)), (2, .int (iI time)), (3, .int (iI f)), (4, .int (bP v))] [] _ _ _
  refine Rg.step 1 F_Mo_need_0 rfl (fun _ => rfl) ?_
  refine Rg.step 2 F_Mo_need_1 rfl (fun _ => rfl) ?_
  refine Rg.step 3 F_Mo_need_2 rfl (fun _ => rfl) ?_
  refine Rg.call 6 F_Mo_need_3 rfl (one_V rM_26_228 (by decide) (by simp) rfl rfl (gM hp) rfl) (Nat.le_of_ble_eq_true rfl) (Cg.any (c_Mo_isAction hp wA (by omega))) ?_
  refine Rg.ifeqP 16 9 F_Mo_need_6 rfl rfl (fun h6 => by omega) (fun _ => ?_)
  refine Rg.step 10 F_Mo_need_9 rfl (fun _ => rfl) ?_
  refine Rg.call 13 F_Mo_need_10 rfl (one_S (by decide +kernel) rM_26_221 (by decide) (by simp) rfl rfl) (Nat.le_of_ble_eq_true rfl) (Cg.any (c_Mo_isFact (by omega))) ?_
  refine Rg.ifneP 20 16 F_Mo_need_13 rfl rfl (fun _ => ?_) (fun h13 => by omega)
  refine Rg.step 21 F_Mo_need_20 rfl (fun _ => rfl) ?_
  refine Rg.step 22 F_Mo_need_21 rfl (fun _ => rfl) ?_
  refine Rg.step 23 F_Mo_need_22 rfl (fun _ => rfl) ?_
  refine Rg.call 26 F_Mo_need_23 rfl (one_S (by decide +kernel) rM_26_200 (by decide) (by simp) rfl rfl) (Nat.le_of_ble_eq_true rfl) (Cg.any (c_Mo_in (by omega) (by omega) (by omega))) ?_
  refine Rg.ifneP 33 29 F_Mo_need_26 rfl rfl (fun _ => ?_) (fun h26 => by omega)
  refine Rg.step 34 F_Mo_need_33 rfl (fun _ => rfl) ?_
  refine Rg.getf 37 F_Mo_need_34 rfl rF_26_48 (gM hp) rfl ?_
  refine Rg.step 38 F_Mo_need_37 rfl (fun _ => rfl) ?_
  refine Rg.ild 39 F_Mo_need_38 rfl (gR_needs hp) (by omega) (by decide) ?_
  refine Rg.bip 41 F_Mo_need_39 rfl rfl ?_
  refine Rg.icneI 48 44 F_Mo_need_41 rfl rfl (by omega) (by omega) (fun h41 => by omega) (fun _ => ?_)
  refine Rg.step 45 F_Mo_need_44 rfl (fun _ => rfl) ?_
  refine Rg.step 49 F_Mo_need_45 rfl (fun _ => rfl) ?_
  refine Rg.put 52 F_Mo_need_49 rfl rF_26_178 (gM hp) (by decide) (Nat.le_of_ble_eq_true rfl) (Or.inl rfl) rfl (sM_code hp) ?_
  refine Rg.step 53 F_Mo_need_52 rfl (fun _ => rfl) ?_
  refine Rg.getf 56 F_Mo_need_53 rfl rF_26_178 (gM hp) rfl ?_
  refine Rg.ifne 78 59 F_Mo_need_56 rfl rfl (fun _ => ?_) (fun h56 => absurd h56 (by decide))
  exact Rg.retV F_Mo_need_78 rfl rfl
theorem c_Mo_compare {d : Nat}  (hp : pre.length = 168) {a time f how : Int} (wA : 0 ≤ actions ∧ actions ≤ 12) (wn : ∀ k, 0 ≤ needs k ∧ needs k ≤ 8) (b_0 : -2147483648 ≤ a ∧ a < 2147483648) (b_1 : -2147483648 ≤ time ∧ time < 2147483648) (b_2 : -2147483648 ≤ f ∧ f < 2147483648) (b_3 : -2147483648 ≤ how ∧ how < 2147483648) (h1 : 0 ≤ a ∧ a ≤ actions - 1) (h2 : 0 ≤ f ∧ f ≤ 7) (h3 : 0 ≤ time ∧ time ≤ 2) (h5 : 0 ≤ how ∧ how ≤ 4) (h4 : ¬ needs a = 8) : Cg false (d + 2) m_Mo_compare [.ref 168, .int (iI a), .int (iI time), .int (iI f), .int (iI how)] (MR pre code amountN amountD momentN momentD epsilonN epsilonD firstFacts firstN firstD wishes wants wantN wantD actions needs needTime needOf needHow needN needD changes changeTime changeOf changeHow changeN changeD lastOf lastN lastD steps stepAction startN startD lengthN lengthD rows row tried triedAction triedRows triedRow times unit facts numN numD oldFacts oldN oldD point judged fault faultPoint toldFacts toldN toldD outN outD pointN pointD gone now leastN leastD greatestN greatestD events post) (.inl none) (MR pre 0 amountN amountD momentN momentD epsilonN epsilonD firstFacts firstN firstD wishes wants wantN wantD actions (up1 needs a (needs a + 1)) (up1 needTime (8 * a + needs a) time) (up1 needOf (8 * a + needs a) f) (up1 needHow (8 * a + needs a) how) (up1 needN (8 * a + needs a) amountN) (up1 needD (8 * a + needs a) amountD) changes changeTime changeOf changeHow changeN changeD lastOf lastN lastD steps stepAction startN startD lengthN lengthD rows row tried triedAction triedRows triedRow times unit facts numN numD oldFacts oldN oldD point judged fault faultPoint toldFacts toldN toldD outN outD pointN pointD gone now leastN leastD greatestN greatestD events post) := by
  have c0 := wn a
  refine Cg.of (Nat.le_of_ble_eq_true rfl) ?_
  change Rg _ _ _ _ 0 [(0, .ref 168), (1, .int (iI a)), (2, .int (iI time)), (3, .int (iI f)), (4, .int (iI how))] [] _ _ _
  refine Rg.step 1 F_Mo_compare_0 rfl (fun _ => rfl) ?_
  refine Rg.step 2 F_Mo_compare_1 rfl (fun _ => rfl) ?_
  refine Rg.step 3 F_Mo_compare_2 rfl (fun _ => rfl) ?_
  refine Rg.call 6 F_Mo_compare_3 rfl (one_V rM_26_228 (by decide) (by simp) rfl rfl (gM hp) rfl) (Nat.le_of_ble_eq_true rfl) (Cg.any (c_Mo_isAction hp wA (by omega))) ?_
  refine Rg.ifeqP 16 9 F_Mo_compare_6 rfl rfl (fun h6 => by omega) (fun _ => ?_)
  refine Rg.step 10 F_Mo_compare_9 rfl (fun _ => rfl) ?_
  refine Rg.call 13 F_Mo_compare_10 rfl (one_S (by decide +kernel) rM_26_225 (by decide) (by simp) rfl rfl) (Nat.le_of_ble_eq_true rfl) (Cg.any (c_Mo_isNumber (by omega))) ?_
  refine Rg.ifneP 20 16 F_Mo_compare_13 rfl rfl (fun _ => ?_) (fun h13 => by omega)
  refine Rg.step 21 F_Mo_compare_20 rfl (fun _ => rfl) ?_
  refine Rg.step 22 F_Mo_compare_21 rfl (fun _ => rfl) ?_
  refine Rg.step 23 F_Mo_compare_22 rfl (fun _ => rfl) ?_
  refine Rg.call 26 F_Mo_compare_23 rfl (one_S (by decide +kernel) rM_26_200 (by decide) (by simp) rfl rfl) (Nat.le_of_ble_eq_true rfl) (Cg.any (c_Mo_in (by omega) (by omega) (by omega))) ?_
  refine Rg.ifeqP 39 29 F_Mo_compare_26 rfl rfl (fun h26 => by omega) (fun _ => ?_)
  refine Rg.step 31 F_Mo_compare_29 rfl (fun _ => rfl) ?_
  refine Rg.step 32 F_Mo_compare_31 rfl (fun _ => rfl) ?_
  refine Rg.step 33 F_Mo_compare_32 rfl (fun _ => rfl) ?_
  refine Rg.call 36 F_Mo_compare_33 rfl (one_S (by decide +kernel) rM_26_200 (by decide) (by simp) rfl rfl) (Nat.le_of_ble_eq_true rfl) (Cg.any (c_Mo_in (by omega) (by omega) (by omega))) ?_
  refine Rg.ifneP 43 39 F_Mo_compare_36 rfl rfl (fun _ => ?_) (fun h36 => by omega)
  refine Rg.step 44 F_Mo_compare_43 rfl (fun _ => rfl) ?_
  refine Rg.getf 47 F_Mo_compare_44 rfl rF_26_48 (gM hp) rfl ?_
  refine Rg.step 48 F_Mo_compare_47 rfl (fun _ => rfl) ?_
  refine Rg.ild 49 F_Mo_compare_48 rfl (gR_needs hp) (by omega) (by decide) ?_
  refine Rg.bip 51 F_Mo_compare_49 rfl rfl ?_
  refine Rg.icneI 58 54 F_Mo_compare_51 rfl rfl (by omega) (by omega) (fun _ => ?_) (fun h51 => by omega)
  refine Rg.step 59 F_Mo_compare_58 rfl (fun _ => rfl) ?_
  refine Rg.put 62 F_Mo_compare_59 rfl rF_26_178 (gM hp) (by decide) (Nat.le_of_ble_eq_true rfl) (Or.inl rfl) rfl (sM_code hp) ?_
  refine Rg.step 63 F_Mo_compare_62 rfl (fun _ => rfl) ?_
  refine Rg.getf 66 F_Mo_compare_63 rfl rF_26_178 (gM hp) rfl ?_
  refine Rg.ifne 78 69 F_Mo_compare_66 rfl rfl (fun h66 => absurd h66 (by decide)) (fun _ => ?_)
  refine Rg.step 70 F_Mo_compare_69 rfl (fun _ => rfl) ?_
  refine Rg.step 71 F_Mo_compare_70 rfl (fun _ => rfl) ?_
  refine Rg.step 72 F_Mo_compare_71 rfl (fun _ => rfl) ?_
  refine Rg.step 73 F_Mo_compare_72 rfl (fun _ => rfl) ?_
  refine Rg.step 75 F_Mo_compare_73 rfl (fun _ => rfl) ?_
  refine Rg.call 78 F_Mo_compare_75 rfl (one_V rM_26_231 (by decide) (by simp) rfl rfl (gM hp) rfl) (Nat.le_of_ble_eq_true rfl) (c_Mo_addNeed hp (by omega) (by omega)) ?_
  exact Rg.retV F_Mo_compare_78 rfl rfl
theorem c_Mo_compare1 {d : Nat}  (hp : pre.length = 168) {a time f how : Int} (wA : 0 ≤ actions ∧ actions ≤ 12) (wn : ∀ k, 0 ≤ needs k ∧ needs k ≤ 8) (b_0 : -2147483648 ≤ a ∧ a < 2147483648) (b_1 : -2147483648 ≤ time ∧ time < 2147483648) (b_2 : -2147483648 ≤ f ∧ f < 2147483648) (b_3 : -2147483648 ≤ how ∧ how < 2147483648) (h1 : ¬ (0 ≤ a ∧ a ≤ actions - 1) ∨ ¬ (0 ≤ f ∧ f ≤ 7)) : Cg false (d + 2) m_Mo_compare [.ref 168, .int (iI a), .int (iI time), .int (iI f), .int (iI how)] (MR pre code amountN amountD momentN momentD epsilonN epsilonD firstFacts firstN firstD wishes wants wantN wantD actions needs needTime needOf needHow needN needD changes changeTime changeOf changeHow changeN changeD lastOf lastN lastD steps stepAction startN startD lengthN lengthD rows row tried triedAction triedRows triedRow times unit facts numN numD oldFacts oldN oldD point judged fault faultPoint toldFacts toldN toldD outN outD pointN pointD gone now leastN leastD greatestN greatestD events post) (.inl none) (MR pre 1 amountN amountD momentN momentD epsilonN epsilonD firstFacts firstN firstD wishes wants wantN wantD actions needs needTime needOf needHow needN needD changes changeTime changeOf changeHow changeN changeD lastOf lastN lastD steps stepAction startN startD lengthN lengthD rows row tried triedAction triedRows triedRow times unit facts numN numD oldFacts oldN oldD point judged fault faultPoint toldFacts toldN toldD outN outD pointN pointD gone now leastN leastD greatestN greatestD events post) := by
  refine Cg.of (Nat.le_of_ble_eq_true rfl) ?_
  change Rg _ _ _ _ 0 [(0, .ref 168), (1, .int (iI a)), (2, .int (iI time)), (3, .int (iI f)), (4, .int (iI how))] [] _ _ _
  refine Rg.step 1 F_Mo_compare_0 rfl (fun _ => rfl) ?_
  refine Rg.step 2 F_Mo_compare_1 rfl (fun _ => rfl) ?_
  refine Rg.step 3 F_Mo_compare_2 rfl (fun _ => rfl) ?_
  refine Rg.call 6 F_Mo_compare_3 rfl (one_V rM_26_228 (by decide) (by simp) rfl rfl (gM hp) rfl) (Nat.le_of_ble_eq_true rfl) (Cg.any (c_Mo_isAction hp wA (by omega))) ?_
  refine Rg.ifeqP 16 9 F_Mo_compare_6 rfl rfl (fun h6 => ?_) (fun h6 => ?_)
  · refine Rg.step 17 F_Mo_compare_16 rfl (fun _ => rfl) ?_
    refine Rg.step 59 F_Mo_compare_17 rfl (fun _ => rfl) ?_
    refine Rg.put 62 F_Mo_compare_59 rfl rF_26_178 (gM hp) (by decide) (Nat.le_of_ble_eq_true rfl) (Or.inl rfl) rfl (sM_code hp) ?_
    refine Rg.step 63 F_Mo_compare_62 rfl (fun _ => rfl) ?_
    refine Rg.getf 66 F_Mo_compare_63 rfl rF_26_178 (gM hp) rfl ?_
    refine Rg.ifne 78 69 F_Mo_compare_66 rfl rfl (fun _ => ?_) (fun h66 => absurd h66 (by decide))
    exact Rg.retV F_Mo_compare_78 rfl rfl
  · refine Rg.step 10 F_Mo_compare_9 rfl (fun _ => rfl) ?_
    refine Rg.call 13 F_Mo_compare_10 rfl (one_S (by decide +kernel) rM_26_225 (by decide) (by simp) rfl rfl) (Nat.le_of_ble_eq_true rfl) (Cg.any (c_Mo_isNumber (by omega))) ?_
    refine Rg.ifneP 20 16 F_Mo_compare_13 rfl rfl (fun h13 => by omega) (fun _ => ?_)
    refine Rg.step 17 F_Mo_compare_16 rfl (fun _ => rfl) ?_
    refine Rg.step 59 F_Mo_compare_17 rfl (fun _ => rfl) ?_
    refine Rg.put 62 F_Mo_compare_59 rfl rF_26_178 (gM hp) (by decide) (Nat.le_of_ble_eq_true rfl) (Or.inl rfl) rfl (sM_code hp) ?_
    refine Rg.step 63 F_Mo_compare_62 rfl (fun _ => rfl) ?_
    refine Rg.getf 66 F_Mo_compare_63 rfl rF_26_178 (gM hp) rfl ?_
    refine Rg.ifne 78 69 F_Mo_compare_66 rfl rfl (fun _ => ?_) (fun h66 => absurd h66 (by decide))
    exact Rg.retV F_Mo_compare_78 rfl rfl
theorem c_Mo_compare2 {d : Nat}  (hp : pre.length = 168) {a time f how : Int} (wA : 0 ≤ actions ∧ actions ≤ 12) (wn : ∀ k, 0 ≤ needs k ∧ needs k ≤ 8) (b_0 : -2147483648 ≤ a ∧ a < 2147483648) (b_1 : -2147483648 ≤ time ∧ time < 2147483648) (b_2 : -2147483648 ≤ f ∧ f < 2147483648) (b_3 : -2147483648 ≤ how ∧ how < 2147483648) (h1 : 0 ≤ a ∧ a ≤ actions - 1) (h2 : 0 ≤ f ∧ f ≤ 7) (h3 : ¬ (0 ≤ time ∧ time ≤ 2) ∨ ¬ (0 ≤ how ∧ how ≤ 4)) : Cg false (d + 2) m_Mo_compare [.ref 168, .int (iI a), .int (iI time), .int (iI f), .int (iI how)] (MR pre code amountN amountD momentN momentD epsilonN epsilonD firstFacts firstN firstD wishes wants wantN wantD actions needs needTime needOf needHow needN needD changes changeTime changeOf changeHow changeN changeD lastOf lastN lastD steps stepAction startN startD lengthN lengthD rows row tried triedAction triedRows triedRow times unit facts numN numD oldFacts oldN oldD point judged fault faultPoint toldFacts toldN toldD outN outD pointN pointD gone now leastN leastD greatestN greatestD events post) (.inl none) (MR pre 2 amountN amountD momentN momentD epsilonN epsilonD firstFacts firstN firstD wishes wants wantN wantD actions needs needTime needOf needHow needN needD changes changeTime changeOf changeHow changeN changeD lastOf lastN lastD steps stepAction startN startD lengthN lengthD rows row tried triedAction triedRows triedRow times unit facts numN numD oldFacts oldN oldD point judged fault faultPoint toldFacts toldN toldD outN outD pointN pointD gone now leastN leastD greatestN greatestD events post) := by
  refine Cg.of (Nat.le_of_ble_eq_true rfl) ?_
  change Rg _ _ _ _ 0 [(0, .ref 168), (1, .int (iI a)), (2, .int (iI time)), (3, .int (iI f)), (4, .int (iI how))] [] _ _ _
  refine Rg.step 1 F_Mo_compare_0 rfl (fun _ => rfl) ?_
  refine Rg.step 2 F_Mo_compare_1 rfl (fun _ => rfl) ?_
  refine Rg.step 3 F_Mo_compare_2 rfl (fun _ => rfl) ?_
  refine Rg.call 6 F_Mo_compare_3 rfl (one_V rM_26_228 (by decide) (by simp) rfl rfl (gM hp) rfl) (Nat.le_of_ble_eq_true rfl) (Cg.any (c_Mo_isAction hp wA (by omega))) ?_
  refine Rg.ifeqP 16 9 F_Mo_compare_6 rfl rfl (fun h6 => by omega) (fun _ => ?_)
  refine Rg.step 10 F_Mo_compare_9 rfl (fun _ => rfl) ?_
  refine Rg.call 13 F_Mo_compare_10 rfl (one_S (by decide +kernel) rM_26_225 (by decide) (by simp) rfl rfl) (Nat.le_of_ble_eq_true rfl) (Cg.any (c_Mo_isNumber (by omega))) ?_
  refine Rg.ifneP 20 16 F_Mo_compare_13 rfl rfl (fun _ => ?_) (fun h13 => by omega)
  refine Rg.step 21 F_Mo_compare_20 rfl (fun _ => rfl) ?_
  refine Rg.step 22 F_Mo_compare_21 rfl (fun _ => rfl) ?_
  refine Rg.step 23 F_Mo_compare_22 rfl (fun _ => rfl) ?_
  refine Rg.call 26 F_Mo_compare_23 rfl (one_S (by decide +kernel) rM_26_200 (by decide) (by simp) rfl rfl) (Nat.le_of_ble_eq_true rfl) (Cg.any (c_Mo_in (by omega) (by omega) (by omega))) ?_
  refine Rg.ifeqP 39 29 F_Mo_compare_26 rfl rfl (fun h26 => ?_) (fun h26 => ?_)
  · refine Rg.step 40 F_Mo_compare_39 rfl (fun _ => rfl) ?_
    refine Rg.step 59 F_Mo_compare_40 rfl (fun _ => rfl) ?_
    refine Rg.put 62 F_Mo_compare_59 rfl rF_26_178 (gM hp) (by decide) (Nat.le_of_ble_eq_true rfl) (Or.inl rfl) rfl (sM_code hp) ?_
    refine Rg.step 63 F_Mo_compare_62 rfl (fun _ => rfl) ?_
    refine Rg.getf 66 F_Mo_compare_63 rfl rF_26_178 (gM hp) rfl ?_
    refine Rg.ifne 78 69 F_Mo_compare_66 rfl rfl (fun _ => ?_) (fun h66 => absurd h66 (by decide))
    exact Rg.retV F_Mo_compare_78 rfl rfl
  · refine Rg.step 31 F_Mo_compare_29 rfl (fun _ => rfl) ?_
    refine Rg.step 32 F_Mo_compare_31 rfl (fun _ => rfl) ?_
    refine Rg.step 33 F_Mo_compare_32 rfl (fun _ => rfl) ?_
    refine Rg.call 36 F_Mo_compare_33 rfl (one_S (by decide +kernel) rM_26_200 (by decide) (by simp) rfl rfl) (Nat.le_of_ble_eq_true rfl) (Cg.any (c_Mo_in (by omega) (by omega) (by omega))) ?_
    refine Rg.ifneP 43 39 F_Mo_compare_36 rfl rfl (fun h36 => by omega) (fun _ => ?_)
    refine Rg.step 40 F_Mo_compare_39 rfl (fun _ => rfl) ?_
    refine Rg.step 59 F_Mo_compare_40 rfl (fun _ => rfl) ?_
    refine Rg.put 62 F_Mo_compare_59 rfl rF_26_178 (gM hp) (by decide) (Nat.le_of_ble_eq_true rfl) (Or.inl rfl) rfl (sM_code hp) ?_
    refine Rg.step 63 F_Mo_compare_62 rfl (fun _ => rfl) ?_
    refine Rg.getf 66 F_Mo_compare_63 rfl rF_26_178 (gM hp) rfl ?_
    refine Rg.ifne 78 69 F_Mo_compare_66 rfl rfl (fun _ => ?_) (fun h66 => absurd h66 (by decide))
    exact Rg.retV F_Mo_compare_78 rfl rfl
theorem c_Mo_compare3 {d : Nat}  (hp : pre.length = 168) {a time f how : Int} (wA : 0 ≤ actions ∧ actions ≤ 12) (wn : ∀ k, 0 ≤ needs k ∧ needs k ≤ 8) (b_0 : -2147483648 ≤ a ∧ a < 2147483648) (b_1 : -2147483648 ≤ time ∧ time < 2147483648) (b_2 : -2147483648 ≤ f ∧ f < 2147483648) (b_3 : -2147483648 ≤ how ∧ how < 2147483648) (h1 : 0 ≤ a ∧ a ≤ actions - 1) (h2 : 0 ≤ f ∧ f ≤ 7) (h3 : 0 ≤ time ∧ time ≤ 2) (h5 : 0 ≤ how ∧ how ≤ 4) (h4 : needs a = 8) : Cg false (d + 2) m_Mo_compare [.ref 168, .int (iI a), .int (iI time), .int (iI f), .int (iI how)] (MR pre code amountN amountD momentN momentD epsilonN epsilonD firstFacts firstN firstD wishes wants wantN wantD actions needs needTime needOf needHow needN needD changes changeTime changeOf changeHow changeN changeD lastOf lastN lastD steps stepAction startN startD lengthN lengthD rows row tried triedAction triedRows triedRow times unit facts numN numD oldFacts oldN oldD point judged fault faultPoint toldFacts toldN toldD outN outD pointN pointD gone now leastN leastD greatestN greatestD events post) (.inl none) (MR pre 3 amountN amountD momentN momentD epsilonN epsilonD firstFacts firstN firstD wishes wants wantN wantD actions needs needTime needOf needHow needN needD changes changeTime changeOf changeHow changeN changeD lastOf lastN lastD steps stepAction startN startD lengthN lengthD rows row tried triedAction triedRows triedRow times unit facts numN numD oldFacts oldN oldD point judged fault faultPoint toldFacts toldN toldD outN outD pointN pointD gone now leastN leastD greatestN greatestD events post) := by
  have c0 := wn a
  refine Cg.of (Nat.le_of_ble_eq_true rfl) ?_
  change Rg _ _ _ _ 0 [(0, .ref 168), (1, .int (iI a)), (2, .int (iI time)), (3, .int (iI f)), (4, .int (iI how))] [] _ _ _
  refine Rg.step 1 F_Mo_compare_0 rfl (fun _ => rfl) ?_
  refine Rg.step 2 F_Mo_compare_1 rfl (fun _ => rfl) ?_
  refine Rg.step 3 F_Mo_compare_2 rfl (fun _ => rfl) ?_
  refine Rg.call 6 F_Mo_compare_3 rfl (one_V rM_26_228 (by decide) (by simp) rfl rfl (gM hp) rfl) (Nat.le_of_ble_eq_true rfl) (Cg.any (c_Mo_isAction hp wA (by omega))) ?_
  refine Rg.ifeqP 16 9 F_Mo_compare_6 rfl rfl (fun h6 => by omega) (fun _ => ?_)
  refine Rg.step 10 F_Mo_compare_9 rfl (fun _ => rfl) ?_
  refine Rg.call 13 F_Mo_compare_10 rfl (one_S (by decide +kernel) rM_26_225 (by decide) (by simp) rfl rfl) (Nat.le_of_ble_eq_true rfl) (Cg.any (c_Mo_isNumber (by omega))) ?_
  refine Rg.ifneP 20 16 F_Mo_compare_13 rfl rfl (fun _ => ?_) (fun h13 => by omega)
  refine Rg.step 21 F_Mo_compare_20 rfl (fun _ => rfl) ?_
  refine Rg.step 22 F_Mo_compare_21 rfl (fun _ => rfl) ?_
  refine Rg.step 23 F_Mo_compare_22 rfl (fun _ => rfl) ?_
  refine Rg.call 26 F_Mo_compare_23 rfl (one_S (by decide +kernel) rM_26_200 (by decide) (by simp) rfl rfl) (Nat.le_of_ble_eq_true rfl) (Cg.any (c_Mo_in (by omega) (by omega) (by omega))) ?_
  refine Rg.ifeqP 39 29 F_Mo_compare_26 rfl rfl (fun h26 => by omega) (fun _ => ?_)
  refine Rg.step 31 F_Mo_compare_29 rfl (fun _ => rfl) ?_
  refine Rg.step 32 F_Mo_compare_31 rfl (fun _ => rfl) ?_
  refine Rg.step 33 F_Mo_compare_32 rfl (fun _ => rfl) ?_
  refine Rg.call 36 F_Mo_compare_33 rfl (one_S (by decide +kernel) rM_26_200 (by decide) (by simp) rfl rfl) (Nat.le_of_ble_eq_true rfl) (Cg.any (c_Mo_in (by omega) (by omega) (by omega))) ?_
  refine Rg.ifneP 43 39 F_Mo_compare_36 rfl rfl (fun _ => ?_) (fun h36 => by omega)
  refine Rg.step 44 F_Mo_compare_43 rfl (fun _ => rfl) ?_
  refine Rg.getf 47 F_Mo_compare_44 rfl rF_26_48 (gM hp) rfl ?_
  refine Rg.step 48 F_Mo_compare_47 rfl (fun _ => rfl) ?_
  refine Rg.ild 49 F_Mo_compare_48 rfl (gR_needs hp) (by omega) (by decide) ?_
  refine Rg.bip 51 F_Mo_compare_49 rfl rfl ?_
  refine Rg.icneI 58 54 F_Mo_compare_51 rfl rfl (by omega) (by omega) (fun h51 => by omega) (fun _ => ?_)
  refine Rg.step 55 F_Mo_compare_54 rfl (fun _ => rfl) ?_
  refine Rg.step 59 F_Mo_compare_55 rfl (fun _ => rfl) ?_
  refine Rg.put 62 F_Mo_compare_59 rfl rF_26_178 (gM hp) (by decide) (Nat.le_of_ble_eq_true rfl) (Or.inl rfl) rfl (sM_code hp) ?_
  refine Rg.step 63 F_Mo_compare_62 rfl (fun _ => rfl) ?_
  refine Rg.getf 66 F_Mo_compare_63 rfl rF_26_178 (gM hp) rfl ?_
  refine Rg.ifne 78 69 F_Mo_compare_66 rfl rfl (fun _ => ?_) (fun h66 => absurd h66 (by decide))
  exact Rg.retV F_Mo_compare_78 rfl rfl
theorem c_Mo_make_t {d : Nat}  (hp : pre.length = 168) {a time f : Int} {v : Prop} (wA : 0 ≤ actions ∧ actions ≤ 12) (wc : ∀ k, 0 ≤ changes k ∧ changes k ≤ 6) (wcT : ∀ k, 0 ≤ changeTime k ∧ changeTime k ≤ 2) (wcO : ∀ k, 0 ≤ changeOf k ∧ changeOf k ≤ 15 ∧ (changeHow k ≤ 9 → changeOf k ≤ 7)) (wcH : ∀ k, 0 ≤ changeHow k ∧ changeHow k ≤ 11 ∧ (changeHow k ≤ 3 ∨ 10 ≤ changeHow k)) (b_0 : -2147483648 ≤ a ∧ a < 2147483648) (b_1 : -2147483648 ≤ time ∧ time < 2147483648) (b_2 : -2147483648 ≤ f ∧ f < 2147483648) (h1 : 0 ≤ a ∧ a ≤ actions - 1) (h2 : 0 ≤ f ∧ f ≤ 15) (h3 : time = 0 ∨ time = 2) (h4 : ¬ changes a = 6) (h6 : chg changes changeTime changeHow changeOf a time True f = -1) (hv : v) : Cg false (d + 2) m_Mo_make [.ref 168, .int (iI a), .int (iI time), .int (iI f), .int (bP v)] (MR pre code amountN amountD momentN momentD epsilonN epsilonD firstFacts firstN firstD wishes wants wantN wantD actions needs needTime needOf needHow needN needD changes changeTime changeOf changeHow changeN changeD lastOf lastN lastD steps stepAction startN startD lengthN lengthD rows row tried triedAction triedRows triedRow times unit facts numN numD oldFacts oldN oldD point judged fault faultPoint toldFacts toldN toldD outN outD pointN pointD gone now leastN leastD greatestN greatestD events post) (.inl none) (MR pre 0 amountN amountD momentN momentD epsilonN epsilonD firstFacts firstN firstD wishes wants wantN wantD actions needs needTime needOf needHow needN needD (up1 changes a (changes a + 1)) (up1 changeTime (6 * a + changes a) time) (up1 changeOf (6 * a + changes a) f) (up1 changeHow (6 * a + changes a) 11) (up1 changeN (6 * a + changes a) amountN) (up1 changeD (6 * a + changes a) amountD) lastOf lastN lastD steps stepAction startN startD lengthN lengthD rows row tried triedAction triedRows triedRow times unit facts numN numD oldFacts oldN oldD point judged fault faultPoint toldFacts toldN toldD outN outD pointN pointD gone now leastN leastD greatestN greatestD events post) := by
  have c0 := wc a
  refine Cg.of (Nat.le_of_ble_eq_true rfl) ?_
  change Rg _ _ _ _ 0 [(0, .ref 168), (1, .int (iI a)), (2, .int (iI time)), (3, .int (iI f)), (4, .int (bP v))] [] _ _ _
  refine Rg.step 1 F_Mo_make_0 rfl (fun _ => rfl) ?_
  refine Rg.step 2 F_Mo_make_1 rfl (fun _ => rfl) ?_
  refine Rg.step 3 F_Mo_make_2 rfl (fun _ => rfl) ?_
  refine Rg.call 6 F_Mo_make_3 rfl (one_V rM_26_228 (by decide) (by simp) rfl rfl (gM hp) rfl) (Nat.le_of_ble_eq_true rfl) (Cg.any (c_Mo_isAction hp wA (by omega))) ?_
  refine Rg.ifeqP 16 9 F_Mo_make_6 rfl rfl (fun h6 => by omega) (fun _ => ?_)
  refine Rg.step 10 F_Mo_make_9 rfl (fun _ => rfl) ?_
  refine Rg.call 13 F_Mo_make_10 rfl (one_S (by decide +kernel) rM_26_221 (by decide) (by simp) rfl rfl) (Nat.le_of_ble_eq_true rfl) (Cg.any (c_Mo_isFact (by omega))) ?_
  refine Rg.ifneP 20 16 F_Mo_make_13 rfl rfl (fun _ => ?_) (fun h13 => by omega)
  refine Rg.step 21 F_Mo_make_20 rfl (fun _ => rfl) ?_
  refine Rg.ifeqI 33 24 F_Mo_make_21 rfl rfl (by omega) (fun h21 => ?_) (fun h21 => ?_)
  · refine Rg.step 34 F_Mo_make_33 rfl (fun _ => rfl) ?_
    refine Rg.getf 37 F_Mo_make_34 rfl rF_26_66 (gM hp) rfl ?_
    refine Rg.step 38 F_Mo_make_37 rfl (fun _ => rfl) ?_
    refine Rg.ild 39 F_Mo_make_38 rfl (gR_changes hp) (by omega) (by decide) ?_
    refine Rg.bip 41 F_Mo_make_39 rfl rfl ?_
    refine Rg.iceqI 55 44 F_Mo_make_41 rfl rfl (by omega) (by omega) (fun h41 => by omega) (fun _ => ?_)
    refine Rg.step 45 F_Mo_make_44 rfl (fun _ => rfl) ?_
    refine Rg.step 46 F_Mo_make_45 rfl (fun _ => rfl) ?_
    refine Rg.step 47 F_Mo_make_46 rfl (fun _ => rfl) ?_
    refine Rg.cP1 (B := True) 48 F_Mo_make_47 rfl trivial ?_
    refine Rg.step 49 F_Mo_make_48 rfl (fun _ => rfl) ?_
    refine Rg.call 52 F_Mo_make_49 rfl (one_V rM_26_235 (by decide) (by simp) rfl rfl (gM hp) rfl) (Nat.le_of_ble_eq_true rfl) (Cg.any (c_Mo_changing hp (by omega) wc wcT wcO wcH (by omega) (by omega))) ?_
    refine Rg.ifltI 59 55 F_Mo_make_52 rfl rfl (by omega) (fun _ => ?_) (fun h52 => by omega)
    refine Rg.step 60 F_Mo_make_59 rfl (fun _ => rfl) ?_
    refine Rg.put 63 F_Mo_make_60 rfl rF_26_178 (gM hp) (by decide) (Nat.le_of_ble_eq_true rfl) (Or.inl rfl) rfl (sM_code hp) ?_
    refine Rg.step 64 F_Mo_make_63 rfl (fun _ => rfl) ?_
    refine Rg.getf 67 F_Mo_make_64 rfl rF_26_178 (gM hp) rfl ?_
    refine Rg.ifne 89 70 F_Mo_make_67 rfl rfl (fun h67 => absurd h67 (by decide)) (fun _ => ?_)
    refine Rg.step 71 F_Mo_make_70 rfl (fun _ => rfl) ?_
    refine Rg.step 72 F_Mo_make_71 rfl (fun _ => rfl) ?_
    refine Rg.step 73 F_Mo_make_72 rfl (fun _ => rfl) ?_
    refine Rg.step 74 F_Mo_make_73 rfl (fun _ => rfl) ?_
    refine Rg.step 76 F_Mo_make_74 rfl (fun _ => rfl) ?_
    refine Rg.ifeqP 84 79 F_Mo_make_76 rfl rfl (fun h76 => absurd hv h76) (fun _ => ?_)
    refine Rg.bip 81 F_Mo_make_79 rfl rfl ?_
    refine Rg.step 86 F_Mo_make_81 rfl (fun _ => rfl) ?_
    refine Rg.call 89 F_Mo_make_86 rfl (one_V rM_26_239 (by decide) (by simp) rfl rfl (gM hp) rfl) (Nat.le_of_ble_eq_true rfl) (c_Mo_addChange hp (by omega) (by omega)) ?_
    exact Rg.retV F_Mo_make_89 rfl rfl
  · refine Rg.step 25 F_Mo_make_24 rfl (fun _ => rfl) ?_
    refine Rg.step 26 F_Mo_make_25 rfl (fun _ => rfl) ?_
    refine Rg.iceqI 33 29 F_Mo_make_26 rfl rfl (by omega) (by omega) (fun _ => ?_) (fun h26 => by omega)
    refine Rg.step 34 F_Mo_make_33 rfl (fun _ => rfl) ?_
    refine Rg.getf 37 F_Mo_make_34 rfl rF_26_66 (gM hp) rfl ?_
    refine Rg.step 38 F_Mo_make_37 rfl (fun _ => rfl) ?_
    refine Rg.ild 39 F_Mo_make_38 rfl (gR_changes hp) (by omega) (by decide) ?_
    refine Rg.bip 41 F_Mo_make_39 rfl rfl ?_
    refine Rg.iceqI 55 44 F_Mo_make_41 rfl rfl (by omega) (by omega) (fun h41 => by omega) (fun _ => ?_)
    refine Rg.step 45 F_Mo_make_44 rfl (fun _ => rfl) ?_
    refine Rg.step 46 F_Mo_make_45 rfl (fun _ => rfl) ?_
    refine Rg.step 47 F_Mo_make_46 rfl (fun _ => rfl) ?_
    refine Rg.cP1 (B := True) 48 F_Mo_make_47 rfl trivial ?_
    refine Rg.step 49 F_Mo_make_48 rfl (fun _ => rfl) ?_
    refine Rg.call 52 F_Mo_make_49 rfl (one_V rM_26_235 (by decide) (by simp) rfl rfl (gM hp) rfl) (Nat.le_of_ble_eq_true rfl) (Cg.any (c_Mo_changing hp (by omega) wc wcT wcO wcH (by omega) (by omega))) ?_
    refine Rg.ifltI 59 55 F_Mo_make_52 rfl rfl (by omega) (fun _ => ?_) (fun h52 => by omega)
    refine Rg.step 60 F_Mo_make_59 rfl (fun _ => rfl) ?_
    refine Rg.put 63 F_Mo_make_60 rfl rF_26_178 (gM hp) (by decide) (Nat.le_of_ble_eq_true rfl) (Or.inl rfl) rfl (sM_code hp) ?_
    refine Rg.step 64 F_Mo_make_63 rfl (fun _ => rfl) ?_
    refine Rg.getf 67 F_Mo_make_64 rfl rF_26_178 (gM hp) rfl ?_
    refine Rg.ifne 89 70 F_Mo_make_67 rfl rfl (fun h67 => absurd h67 (by decide)) (fun _ => ?_)
    refine Rg.step 71 F_Mo_make_70 rfl (fun _ => rfl) ?_
    refine Rg.step 72 F_Mo_make_71 rfl (fun _ => rfl) ?_
    refine Rg.step 73 F_Mo_make_72 rfl (fun _ => rfl) ?_
    refine Rg.step 74 F_Mo_make_73 rfl (fun _ => rfl) ?_
    refine Rg.step 76 F_Mo_make_74 rfl (fun _ => rfl) ?_
    refine Rg.ifeqP 84 79 F_Mo_make_76 rfl rfl (fun h76 => absurd hv h76) (fun _ => ?_)
    refine Rg.bip 81 F_Mo_make_79 rfl rfl ?_
    refine Rg.step 86 F_Mo_make_81 rfl (fun _ => rfl) ?_
    refine Rg.call 89 F_Mo_make_86 rfl (one_V rM_26_239 (by decide) (by simp) rfl rfl (gM hp) rfl) (Nat.le_of_ble_eq_true rfl) (c_Mo_addChange hp (by omega) (by omega)) ?_
    exact Rg.retV F_Mo_make_89 rfl rfl
theorem c_Mo_make_f {d : Nat}  (hp : pre.length = 168) {a time f : Int} {v : Prop} (wA : 0 ≤ actions ∧ actions ≤ 12) (wc : ∀ k, 0 ≤ changes k ∧ changes k ≤ 6) (wcT : ∀ k, 0 ≤ changeTime k ∧ changeTime k ≤ 2) (wcO : ∀ k, 0 ≤ changeOf k ∧ changeOf k ≤ 15 ∧ (changeHow k ≤ 9 → changeOf k ≤ 7)) (wcH : ∀ k, 0 ≤ changeHow k ∧ changeHow k ≤ 11 ∧ (changeHow k ≤ 3 ∨ 10 ≤ changeHow k)) (b_0 : -2147483648 ≤ a ∧ a < 2147483648) (b_1 : -2147483648 ≤ time ∧ time < 2147483648) (b_2 : -2147483648 ≤ f ∧ f < 2147483648) (h1 : 0 ≤ a ∧ a ≤ actions - 1) (h2 : 0 ≤ f ∧ f ≤ 15) (h3 : time = 0 ∨ time = 2) (h4 : ¬ changes a = 6) (h6 : chg changes changeTime changeHow changeOf a time True f = -1) (hv : ¬ v) : Cg false (d + 2) m_Mo_make [.ref 168, .int (iI a), .int (iI time), .int (iI f), .int (bP v)] (MR pre code amountN amountD momentN momentD epsilonN epsilonD firstFacts firstN firstD wishes wants wantN wantD actions needs needTime needOf needHow needN needD changes changeTime changeOf changeHow changeN changeD lastOf lastN lastD steps stepAction startN startD lengthN lengthD rows row tried triedAction triedRows triedRow times unit facts numN numD oldFacts oldN oldD point judged fault faultPoint toldFacts toldN toldD outN outD pointN pointD gone now leastN leastD greatestN greatestD events post) (.inl none) (MR pre 0 amountN amountD momentN momentD epsilonN epsilonD firstFacts firstN firstD wishes wants wantN wantD actions needs needTime needOf needHow needN needD (up1 changes a (changes a + 1)) (up1 changeTime (6 * a + changes a) time) (up1 changeOf (6 * a + changes a) f) (up1 changeHow (6 * a + changes a) 10) (up1 changeN (6 * a + changes a) amountN) (up1 changeD (6 * a + changes a) amountD) lastOf lastN lastD steps stepAction startN startD lengthN lengthD rows row tried triedAction triedRows triedRow times unit facts numN numD oldFacts oldN oldD point judged fault faultPoint toldFacts toldN toldD outN outD pointN pointD gone now leastN leastD greatestN greatestD events post) := by
  have c0 := wc a
  refine Cg.of (Nat.le_of_ble_eq_true rfl) ?_
  change Rg _ _ _ _ 0 [(0, .ref 168), (1, .int (iI a)), (2, .int (iI time)), (3, .int (iI f)), (4, .int (bP v))] [] _ _ _
  refine Rg.step 1 F_Mo_make_0 rfl (fun _ => rfl) ?_
  refine Rg.step 2 F_Mo_make_1 rfl (fun _ => rfl) ?_
  refine Rg.step 3 F_Mo_make_2 rfl (fun _ => rfl) ?_
  refine Rg.call 6 F_Mo_make_3 rfl (one_V rM_26_228 (by decide) (by simp) rfl rfl (gM hp) rfl) (Nat.le_of_ble_eq_true rfl) (Cg.any (c_Mo_isAction hp wA (by omega))) ?_
  refine Rg.ifeqP 16 9 F_Mo_make_6 rfl rfl (fun h6 => by omega) (fun _ => ?_)
  refine Rg.step 10 F_Mo_make_9 rfl (fun _ => rfl) ?_
  refine Rg.call 13 F_Mo_make_10 rfl (one_S (by decide +kernel) rM_26_221 (by decide) (by simp) rfl rfl) (Nat.le_of_ble_eq_true rfl) (Cg.any (c_Mo_isFact (by omega))) ?_
  refine Rg.ifneP 20 16 F_Mo_make_13 rfl rfl (fun _ => ?_) (fun h13 => by omega)
  refine Rg.step 21 F_Mo_make_20 rfl (fun _ => rfl) ?_
  refine Rg.ifeqI 33 24 F_Mo_make_21 rfl rfl (by omega) (fun h21 => ?_) (fun h21 => ?_)
  · refine Rg.step 34 F_Mo_make_33 rfl (fun _ => rfl) ?_
    refine Rg.getf 37 F_Mo_make_34 rfl rF_26_66 (gM hp) rfl ?_
    refine Rg.step 38 F_Mo_make_37 rfl (fun _ => rfl) ?_
    refine Rg.ild 39 F_Mo_make_38 rfl (gR_changes hp) (by omega) (by decide) ?_
    refine Rg.bip 41 F_Mo_make_39 rfl rfl ?_
    refine Rg.iceqI 55 44 F_Mo_make_41 rfl rfl (by omega) (by omega) (fun h41 => by omega) (fun _ => ?_)
    refine Rg.step 45 F_Mo_make_44 rfl (fun _ => rfl) ?_
    refine Rg.step 46 F_Mo_make_45 rfl (fun _ => rfl) ?_
    refine Rg.step 47 F_Mo_make_46 rfl (fun _ => rfl) ?_
    refine Rg.cP1 (B := True) 48 F_Mo_make_47 rfl trivial ?_
    refine Rg.step 49 F_Mo_make_48 rfl (fun _ => rfl) ?_
    refine Rg.call 52 F_Mo_make_49 rfl (one_V rM_26_235 (by decide) (by simp) rfl rfl (gM hp) rfl) (Nat.le_of_ble_eq_true rfl) (Cg.any (c_Mo_changing hp (by omega) wc wcT wcO wcH (by omega) (by omega))) ?_
    refine Rg.ifltI 59 55 F_Mo_make_52 rfl rfl (by omega) (fun _ => ?_) (fun h52 => by omega)
    refine Rg.step 60 F_Mo_make_59 rfl (fun _ => rfl) ?_
    refine Rg.put 63 F_Mo_make_60 rfl rF_26_178 (gM hp) (by decide) (Nat.le_of_ble_eq_true rfl) (Or.inl rfl) rfl (sM_code hp) ?_
    refine Rg.step 64 F_Mo_make_63 rfl (fun _ => rfl) ?_
    refine Rg.getf 67 F_Mo_make_64 rfl rF_26_178 (gM hp) rfl ?_
    refine Rg.ifne 89 70 F_Mo_make_67 rfl rfl (fun h67 => absurd h67 (by decide)) (fun _ => ?_)
    refine Rg.step 71 F_Mo_make_70 rfl (fun _ => rfl) ?_
    refine Rg.step 72 F_Mo_make_71 rfl (fun _ => rfl) ?_
    refine Rg.step 73 F_Mo_make_72 rfl (fun _ => rfl) ?_
    refine Rg.step 74 F_Mo_make_73 rfl (fun _ => rfl) ?_
    refine Rg.step 76 F_Mo_make_74 rfl (fun _ => rfl) ?_
    refine Rg.ifeqP 84 79 F_Mo_make_76 rfl rfl (fun _ => ?_) (fun h76 => absurd h76 hv)
    refine Rg.bip 86 F_Mo_make_84 rfl rfl ?_
    refine Rg.call 89 F_Mo_make_86 rfl (one_V rM_26_239 (by decide) (by simp) rfl rfl (gM hp) rfl) (Nat.le_of_ble_eq_true rfl) (c_Mo_addChange hp (by omega) (by omega)) ?_
    exact Rg.retV F_Mo_make_89 rfl rfl
  · refine Rg.step 25 F_Mo_make_24 rfl (fun _ => rfl) ?_
    refine Rg.step 26 F_Mo_make_25 rfl (fun _ => rfl) ?_
    refine Rg.iceqI 33 29 F_Mo_make_26 rfl rfl (by omega) (by omega) (fun _ => ?_) (fun h26 => by omega)
    refine Rg.step 34 F_Mo_make_33 rfl (fun _ => rfl) ?_
    refine Rg.getf 37 F_Mo_make_34 rfl rF_26_66 (gM hp) rfl ?_
    refine Rg.step 38 F_Mo_make_37 rfl (fun _ => rfl) ?_
    refine Rg.ild 39 F_Mo_make_38 rfl (gR_changes hp) (by omega) (by decide) ?_
    refine Rg.bip 41 F_Mo_make_39 rfl rfl ?_
    refine Rg.iceqI 55 44 F_Mo_make_41 rfl rfl (by omega) (by omega) (fun h41 => by omega) (fun _ => ?_)
    refine Rg.step 45 F_Mo_make_44 rfl (fun _ => rfl) ?_
    refine Rg.step 46 F_Mo_make_45 rfl (fun _ => rfl) ?_
    refine Rg.step 47 F_Mo_make_46 rfl (fun _ => rfl) ?_
    refine Rg.cP1 (B := True) 48 F_Mo_make_47 rfl trivial ?_
    refine Rg.step 49 F_Mo_make_48 rfl (fun _ => rfl) ?_
    refine Rg.call 52 F_Mo_make_49 rfl (one_V rM_26_235 (by decide) (by simp) rfl rfl (gM hp) rfl) (Nat.le_of_ble_eq_true rfl) (Cg.any (c_Mo_changing hp (by omega) wc wcT wcO wcH (by omega) (by omega))) ?_
    refine Rg.ifltI 59 55 F_Mo_make_52 rfl rfl (by omega) (fun _ => ?_) (fun h52 => by omega)
    refine Rg.step 60 F_Mo_make_59 rfl (fun _ => rfl) ?_
    refine Rg.put 63 F_Mo_make_60 rfl rF_26_178 (gM hp) (by decide) (Nat.le_of_ble_eq_true rfl) (Or.inl rfl) rfl (sM_code hp) ?_
    refine Rg.step 64 F_Mo_make_63 rfl (fun _ => rfl) ?_
    refine Rg.getf 67 F_Mo_make_64 rfl rF_26_178 (gM hp) rfl ?_
    refine Rg.ifne 89 70 F_Mo_make_67 rfl rfl (fun h67 => absurd h67 (by decide)) (fun _ => ?_)
    refine Rg.step 71 F_Mo_make_70 rfl (fun _ => rfl) ?_
    refine Rg.step 72 F_Mo_make_71 rfl (fun _ => rfl) ?_
    refine Rg.step 73 F_Mo_make_72 rfl (fun _ => rfl) ?_
    refine Rg.step 74 F_Mo_make_73 rfl (fun _ => rfl) ?_
    refine Rg.step 76 F_Mo_make_74 rfl (fun _ => rfl) ?_
    refine Rg.ifeqP 84 79 F_Mo_make_76 rfl rfl (fun _ => ?_) (fun h76 => absurd h76 hv)
    refine Rg.bip 86 F_Mo_make_84 rfl rfl ?_
    refine Rg.call 89 F_Mo_make_86 rfl (one_V rM_26_239 (by decide) (by simp) rfl rfl (gM hp) rfl) (Nat.le_of_ble_eq_true rfl) (c_Mo_addChange hp (by omega) (by omega)) ?_
    exact Rg.retV F_Mo_make_89 rfl rfl
theorem c_Mo_make1 {d : Nat}  (hp : pre.length = 168) {a time f : Int} {v : Prop} (wA : 0 ≤ actions ∧ actions ≤ 12) (wc : ∀ k, 0 ≤ changes k ∧ changes k ≤ 6) (wcT : ∀ k, 0 ≤ changeTime k ∧ changeTime k ≤ 2) (wcO : ∀ k, 0 ≤ changeOf k ∧ changeOf k ≤ 15 ∧ (changeHow k ≤ 9 → changeOf k ≤ 7)) (wcH : ∀ k, 0 ≤ changeHow k ∧ changeHow k ≤ 11 ∧ (changeHow k ≤ 3 ∨ 10 ≤ changeHow k)) (b_0 : -2147483648 ≤ a ∧ a < 2147483648) (b_1 : -2147483648 ≤ time ∧ time < 2147483648) (b_2 : -2147483648 ≤ f ∧ f < 2147483648) (h1 : ¬ (0 ≤ a ∧ a ≤ actions - 1) ∨ ¬ (0 ≤ f ∧ f ≤ 15)) : Cg false (d + 2) m_Mo_make [.ref 168, .int (iI a), .int (iI time), .int (iI f), .int (bP v)] (MR pre code amountN amountD momentN momentD epsilonN epsilonD firstFacts firstN firstD wishes wants wantN wantD actions needs needTime needOf needHow needN needD changes changeTime changeOf changeHow changeN changeD lastOf lastN lastD steps stepAction startN startD lengthN lengthD rows row tried triedAction triedRows triedRow times unit facts numN numD oldFacts oldN oldD point judged fault faultPoint toldFacts toldN toldD outN outD pointN pointD gone now leastN leastD greatestN greatestD events post) (.inl none) (MR pre 1 amountN amountD momentN momentD epsilonN epsilonD firstFacts firstN firstD wishes wants wantN wantD actions needs needTime needOf needHow needN needD changes changeTime changeOf changeHow changeN changeD lastOf lastN lastD steps stepAction startN startD lengthN lengthD rows row tried triedAction triedRows triedRow times unit facts numN numD oldFacts oldN oldD point judged fault faultPoint toldFacts toldN toldD outN outD pointN pointD gone now leastN leastD greatestN greatestD events post) := by
  refine Cg.of (Nat.le_of_ble_eq_true rfl) ?_
  change Rg _ _ _ _ 0 [(0, .ref 168), (1, .int (iI a)), (2, .int (iI time)), (3, .int (iI f)), (4, .int (bP v))] [] _ _ _
  refine Rg.step 1 F_Mo_make_0 rfl (fun _ => rfl) ?_
  refine Rg.step 2 F_Mo_make_1 rfl (fun _ => rfl) ?_
  refine Rg.step 3 F_Mo_make_2 rfl (fun _ => rfl) ?_
  refine Rg.call 6 F_Mo_make_3 rfl (one_V rM_26_228 (by decide) (by simp) rfl rfl (gM hp) rfl) (Nat.le_of_ble_eq_true rfl) (Cg.any (c_Mo_isAction hp wA (by omega))) ?_
  refine Rg.ifeqP 16 9 F_Mo_make_6 rfl rfl (fun h6 => ?_) (fun h6 => ?_)
  · refine Rg.step 17 F_Mo_make_16 rfl (fun _ => rfl) ?_
    refine Rg.step 60 F_Mo_make_17 rfl (fun _ => rfl) ?_
    refine Rg.put 63 F_Mo_make_60 rfl rF_26_178 (gM hp) (by decide) (Nat.le_of_ble_eq_true rfl) (Or.inl rfl) rfl (sM_code hp) ?_
    refine Rg.step 64 F_Mo_make_63 rfl (fun _ => rfl) ?_
    refine Rg.getf 67 F_Mo_make_64 rfl rF_26_178 (gM hp) rfl ?_
    refine Rg.ifne 89 70 F_Mo_make_67 rfl rfl (fun _ => ?_) (fun h67 => absurd h67 (by decide))
    exact Rg.retV F_Mo_make_89 rfl rfl
  · refine Rg.step 10 F_Mo_make_9 rfl (fun _ => rfl) ?_
    refine Rg.call 13 F_Mo_make_10 rfl (one_S (by decide +kernel) rM_26_221 (by decide) (by simp) rfl rfl) (Nat.le_of_ble_eq_true rfl) (Cg.any (c_Mo_isFact (by omega))) ?_
    refine Rg.ifneP 20 16 F_Mo_make_13 rfl rfl (fun h13 => by omega) (fun _ => ?_)
    refine Rg.step 17 F_Mo_make_16 rfl (fun _ => rfl) ?_
    refine Rg.step 60 F_Mo_make_17 rfl (fun _ => rfl) ?_
    refine Rg.put 63 F_Mo_make_60 rfl rF_26_178 (gM hp) (by decide) (Nat.le_of_ble_eq_true rfl) (Or.inl rfl) rfl (sM_code hp) ?_
    refine Rg.step 64 F_Mo_make_63 rfl (fun _ => rfl) ?_
    refine Rg.getf 67 F_Mo_make_64 rfl rF_26_178 (gM hp) rfl ?_
    refine Rg.ifne 89 70 F_Mo_make_67 rfl rfl (fun _ => ?_) (fun h67 => absurd h67 (by decide))
    exact Rg.retV F_Mo_make_89 rfl rfl
theorem c_Mo_make2 {d : Nat}  (hp : pre.length = 168) {a time f : Int} {v : Prop} (wA : 0 ≤ actions ∧ actions ≤ 12) (wc : ∀ k, 0 ≤ changes k ∧ changes k ≤ 6) (wcT : ∀ k, 0 ≤ changeTime k ∧ changeTime k ≤ 2) (wcO : ∀ k, 0 ≤ changeOf k ∧ changeOf k ≤ 15 ∧ (changeHow k ≤ 9 → changeOf k ≤ 7)) (wcH : ∀ k, 0 ≤ changeHow k ∧ changeHow k ≤ 11 ∧ (changeHow k ≤ 3 ∨ 10 ≤ changeHow k)) (b_0 : -2147483648 ≤ a ∧ a < 2147483648) (b_1 : -2147483648 ≤ time ∧ time < 2147483648) (b_2 : -2147483648 ≤ f ∧ f < 2147483648) (h1 : 0 ≤ a ∧ a ≤ actions - 1) (h2 : 0 ≤ f ∧ f ≤ 15) (h3 : ¬ (time = 0 ∨ time = 2)) : Cg false (d + 2) m_Mo_make [.ref 168, .int (iI a), .int (iI time), .int (iI f), .int (bP v)] (MR pre code amountN amountD momentN momentD epsilonN epsilonD firstFacts firstN firstD wishes wants wantN wantD actions needs needTime needOf needHow needN needD changes changeTime changeOf changeHow changeN changeD lastOf lastN lastD steps stepAction startN startD lengthN lengthD rows row tried triedAction triedRows triedRow times unit facts numN numD oldFacts oldN oldD point judged fault faultPoint toldFacts toldN toldD outN outD pointN pointD gone now leastN leastD greatestN greatestD events post) (.inl none) (MR pre 2 amountN amountD momentN momentD epsilonN epsilonD firstFacts firstN firstD wishes wants wantN wantD actions needs needTime needOf needHow needN needD changes changeTime changeOf changeHow changeN changeD lastOf lastN lastD steps stepAction startN startD lengthN lengthD rows row tried triedAction triedRows triedRow times unit facts numN numD oldFacts oldN oldD point judged fault faultPoint toldFacts toldN toldD outN outD pointN pointD gone now leastN leastD greatestN greatestD events post) := by
  refine Cg.of (Nat.le_of_ble_eq_true rfl) ?_
  change Rg _ _ _ _ 0 [(0, .ref 168), (1, .int (iI a)), (2, .int (iI time)), (3, .int (iI f)), (4, .int (bP v))] [] _ _ _
  refine Rg.step 1 F_Mo_make_0 rfl (fun _ => rfl) ?_
  refine Rg.step 2 F_Mo_make_1 rfl (fun _ => rfl) ?_
  refine Rg.step 3 F_Mo_make_2 rfl (fun _ => rfl) ?_
  refine Rg.call 6 F_Mo_make_3 rfl (one_V rM_26_228 (by decide) (by simp) rfl rfl (gM hp) rfl) (Nat.le_of_ble_eq_true rfl) (Cg.any (c_Mo_isAction hp wA (by omega))) ?_
  refine Rg.ifeqP 16 9 F_Mo_make_6 rfl rfl (fun h6 => by omega) (fun _ => ?_)
  refine Rg.step 10 F_Mo_make_9 rfl (fun _ => rfl) ?_
  refine Rg.call 13 F_Mo_make_10 rfl (one_S (by decide +kernel) rM_26_221 (by decide) (by simp) rfl rfl) (Nat.le_of_ble_eq_true rfl) (Cg.any (c_Mo_isFact (by omega))) ?_
  refine Rg.ifneP 20 16 F_Mo_make_13 rfl rfl (fun _ => ?_) (fun h13 => by omega)
  refine Rg.step 21 F_Mo_make_20 rfl (fun _ => rfl) ?_
  refine Rg.ifeqI 33 24 F_Mo_make_21 rfl rfl (by omega) (fun h21 => by omega) (fun _ => ?_)
  refine Rg.step 25 F_Mo_make_24 rfl (fun _ => rfl) ?_
  refine Rg.step 26 F_Mo_make_25 rfl (fun _ => rfl) ?_
  refine Rg.iceqI 33 29 F_Mo_make_26 rfl rfl (by omega) (by omega) (fun h26 => by omega) (fun _ => ?_)
  refine Rg.step 30 F_Mo_make_29 rfl (fun _ => rfl) ?_
  refine Rg.step 60 F_Mo_make_30 rfl (fun _ => rfl) ?_
  refine Rg.put 63 F_Mo_make_60 rfl rF_26_178 (gM hp) (by decide) (Nat.le_of_ble_eq_true rfl) (Or.inl rfl) rfl (sM_code hp) ?_
  refine Rg.step 64 F_Mo_make_63 rfl (fun _ => rfl) ?_
  refine Rg.getf 67 F_Mo_make_64 rfl rF_26_178 (gM hp) rfl ?_
  refine Rg.ifne 89 70 F_Mo_make_67 rfl rfl (fun _ => ?_) (fun h67 => absurd h67 (by decide))
  exact Rg.retV F_Mo_make_89 rfl rfl
theorem c_Mo_make3 {d : Nat}  (hp : pre.length = 168) {a time f : Int} {v : Prop} (wA : 0 ≤ actions ∧ actions ≤ 12) (wc : ∀ k, 0 ≤ changes k ∧ changes k ≤ 6) (wcT : ∀ k, 0 ≤ changeTime k ∧ changeTime k ≤ 2) (wcO : ∀ k, 0 ≤ changeOf k ∧ changeOf k ≤ 15 ∧ (changeHow k ≤ 9 → changeOf k ≤ 7)) (wcH : ∀ k, 0 ≤ changeHow k ∧ changeHow k ≤ 11 ∧ (changeHow k ≤ 3 ∨ 10 ≤ changeHow k)) (b_0 : -2147483648 ≤ a ∧ a < 2147483648) (b_1 : -2147483648 ≤ time ∧ time < 2147483648) (b_2 : -2147483648 ≤ f ∧ f < 2147483648) (h1 : 0 ≤ a ∧ a ≤ actions - 1) (h2 : 0 ≤ f ∧ f ≤ 15) (h3 : time = 0 ∨ time = 2) (h4 : changes a = 6 ∨ 0 ≤ chg changes changeTime changeHow changeOf a time True f) : Cg false (d + 2) m_Mo_make [.ref 168, .int (iI a), .int (iI time), .int (iI f), .int (bP v)] (MR pre code amountN amountD momentN momentD epsilonN epsilonD firstFacts firstN firstD wishes wants wantN wantD actions needs needTime needOf needHow needN needD changes changeTime changeOf changeHow changeN changeD lastOf lastN lastD steps stepAction startN startD lengthN lengthD rows row tried triedAction triedRows triedRow times unit facts numN numD oldFacts oldN oldD point judged fault faultPoint toldFacts toldN toldD outN outD pointN pointD gone now leastN leastD greatestN greatestD events post) (.inl none) (MR pre 3 amountN amountD momentN momentD epsilonN epsilonD firstFacts firstN firstD wishes wants wantN wantD actions needs needTime needOf needHow needN needD changes changeTime changeOf changeHow changeN changeD lastOf lastN lastD steps stepAction startN startD lengthN lengthD rows row tried triedAction triedRows triedRow times unit facts numN numD oldFacts oldN oldD point judged fault faultPoint toldFacts toldN toldD outN outD pointN pointD gone now leastN leastD greatestN greatestD events post) := by
  have c0 := wc a
  have c9 : -1 ≤ chg changes changeTime changeHow changeOf a time True f ∧ chg changes changeTime changeHow changeOf a time True f < 100 := by have z := fnd_bd (A := fun k => changeTime k = time ∧ (9 < changeHow k ↔ True) ∧ changeOf k = f) (changes a).toNat (6 * a); unfold chg; omega
  refine Cg.of (Nat.le_of_ble_eq_true rfl) ?_
  change Rg _ _ _ _ 0 [(0, .ref 168), (1, .int (iI a)), (2, .int (iI time)), (3, .int (iI f)), (4, .int (bP v))] [] _ _ _
  refine Rg.step 1 F_Mo_make_0 rfl (fun _ => rfl) ?_
  refine Rg.step 2 F_Mo_make_1 rfl (fun _ => rfl) ?_
  refine Rg.step 3 F_Mo_make_2 rfl (fun _ => rfl) ?_
  refine Rg.call 6 F_Mo_make_3 rfl (one_V rM_26_228 (by decide) (by simp) rfl rfl (gM hp) rfl) (Nat.le_of_ble_eq_true rfl) (Cg.any (c_Mo_isAction hp wA (by omega))) ?_
  refine Rg.ifeqP 16 9 F_Mo_make_6 rfl rfl (fun h6 => by omega) (fun _ => ?_)
  refine Rg.step 10 F_Mo_make_9 rfl (fun _ => rfl) ?_
  refine Rg.call 13 F_Mo_make_10 rfl (one_S (by decide +kernel) rM_26_221 (by decide) (by simp) rfl rfl) (Nat.le_of_ble_eq_true rfl) (Cg.any (c_Mo_isFact (by omega))) ?_
  refine Rg.ifneP 20 16 F_Mo_make_13 rfl rfl (fun _ => ?_) (fun h13 => by omega)
  refine Rg.step 21 F_Mo_make_20 rfl (fun _ => rfl) ?_
  refine Rg.ifeqI 33 24 F_Mo_make_21 rfl rfl (by omega) (fun h21 => ?_) (fun h21 => ?_)
  · refine Rg.step 34 F_Mo_make_33 rfl (fun _ => rfl) ?_
    refine Rg.getf 37 F_Mo_make_34 rfl rF_26_66 (gM hp) rfl ?_
    refine Rg.step 38 F_Mo_make_37 rfl (fun _ => rfl) ?_
    refine Rg.ild 39 F_Mo_make_38 rfl (gR_changes hp) (by omega) (by decide) ?_
    refine Rg.bip 41 F_Mo_make_39 rfl rfl ?_
    refine Rg.iceqI 55 44 F_Mo_make_41 rfl rfl (by omega) (by omega) (fun h41 => ?_) (fun h41 => ?_)
    · refine Rg.step 56 F_Mo_make_55 rfl (fun _ => rfl) ?_
      refine Rg.step 60 F_Mo_make_56 rfl (fun _ => rfl) ?_
      refine Rg.put 63 F_Mo_make_60 rfl rF_26_178 (gM hp) (by decide) (Nat.le_of_ble_eq_true rfl) (Or.inl rfl) rfl (sM_code hp) ?_
      refine Rg.step 64 F_Mo_make_63 rfl (fun _ => rfl) ?_
      refine Rg.getf 67 F_Mo_make_64 rfl rF_26_178 (gM hp) rfl ?_
      refine Rg.ifne 89 70 F_Mo_make_67 rfl rfl (fun _ => ?_) (fun h67 => absurd h67 (by decide))
      exact Rg.retV F_Mo_make_89 rfl rfl
    · refine Rg.step 45 F_Mo_make_44 rfl (fun _ => rfl) ?_
      refine Rg.step 46 F_Mo_make_45 rfl (fun _ => rfl) ?_
      refine Rg.step 47 F_Mo_make_46 rfl (fun _ => rfl) ?_
      refine Rg.cP1 (B := True) 48 F_Mo_make_47 rfl trivial ?_
      refine Rg.step 49 F_Mo_make_48 rfl (fun _ => rfl) ?_
      refine Rg.call 52 F_Mo_make_49 rfl (one_V rM_26_235 (by decide) (by simp) rfl rfl (gM hp) rfl) (Nat.le_of_ble_eq_true rfl) (Cg.any (c_Mo_changing hp (by omega) wc wcT wcO wcH (by omega) (by omega))) ?_
      refine Rg.ifltI 59 55 F_Mo_make_52 rfl rfl (by omega) (fun h52 => by omega) (fun _ => ?_)
      refine Rg.step 56 F_Mo_make_55 rfl (fun _ => rfl) ?_
      refine Rg.step 60 F_Mo_make_56 rfl (fun _ => rfl) ?_
      refine Rg.put 63 F_Mo_make_60 rfl rF_26_178 (gM hp) (by decide) (Nat.le_of_ble_eq_true rfl) (Or.inl rfl) rfl (sM_code hp) ?_
      refine Rg.step 64 F_Mo_make_63 rfl (fun _ => rfl) ?_
      refine Rg.getf 67 F_Mo_make_64 rfl rF_26_178 (gM hp) rfl ?_
      refine Rg.ifne 89 70 F_Mo_make_67 rfl rfl (fun _ => ?_) (fun h67 => absurd h67 (by decide))
      exact Rg.retV F_Mo_make_89 rfl rfl
  · refine Rg.step 25 F_Mo_make_24 rfl (fun _ => rfl) ?_
    refine Rg.step 26 F_Mo_make_25 rfl (fun _ => rfl) ?_
    refine Rg.iceqI 33 29 F_Mo_make_26 rfl rfl (by omega) (by omega) (fun _ => ?_) (fun h26 => by omega)
    refine Rg.step 34 F_Mo_make_33 rfl (fun _ => rfl) ?_
    refine Rg.getf 37 F_Mo_make_34 rfl rF_26_66 (gM hp) rfl ?_
    refine Rg.step 38 F_Mo_make_37 rfl (fun _ => rfl) ?_
    refine Rg.ild 39 F_Mo_make_38 rfl (gR_changes hp) (by omega) (by decide) ?_
    refine Rg.bip 41 F_Mo_make_39 rfl rfl ?_
    refine Rg.iceqI 55 44 F_Mo_make_41 rfl rfl (by omega) (by omega) (fun h41 => ?_) (fun h41 => ?_)
    · refine Rg.step 56 F_Mo_make_55 rfl (fun _ => rfl) ?_
      refine Rg.step 60 F_Mo_make_56 rfl (fun _ => rfl) ?_
      refine Rg.put 63 F_Mo_make_60 rfl rF_26_178 (gM hp) (by decide) (Nat.le_of_ble_eq_true rfl) (Or.inl rfl) rfl (sM_code hp) ?_
      refine Rg.step 64 F_Mo_make_63 rfl (fun _ => rfl) ?_
      refine Rg.getf 67 F_Mo_make_64 rfl rF_26_178 (gM hp) rfl ?_
      refine Rg.ifne 89 70 F_Mo_make_67 rfl rfl (fun _ => ?_) (fun h67 => absurd h67 (by decide))
      exact Rg.retV F_Mo_make_89 rfl rfl
    · refine Rg.step 45 F_Mo_make_44 rfl (fun _ => rfl) ?_
      refine Rg.step 46 F_Mo_make_45 rfl (fun _ => rfl) ?_
      refine Rg.step 47 F_Mo_make_46 rfl (fun _ => rfl) ?_
      refine Rg.cP1 (B := True) 48 F_Mo_make_47 rfl trivial ?_
      refine Rg.step 49 F_Mo_make_48 rfl (fun _ => rfl) ?_
      refine Rg.call 52 F_Mo_make_49 rfl (one_V rM_26_235 (by decide) (by simp) rfl rfl (gM hp) rfl) (Nat.le_of_ble_eq_true rfl) (Cg.any (c_Mo_changing hp (by omega) wc wcT wcO wcH (by omega) (by omega))) ?_
      refine Rg.ifltI 59 55 F_Mo_make_52 rfl rfl (by omega) (fun h52 => by omega) (fun _ => ?_)
      refine Rg.step 56 F_Mo_make_55 rfl (fun _ => rfl) ?_
      refine Rg.step 60 F_Mo_make_56 rfl (fun _ => rfl) ?_
      refine Rg.put 63 F_Mo_make_60 rfl rF_26_178 (gM hp) (by decide) (Nat.le_of_ble_eq_true rfl) (Or.inl rfl) rfl (sM_code hp) ?_
      refine Rg.step 64 F_Mo_make_63 rfl (fun _ => rfl) ?_
      refine Rg.getf 67 F_Mo_make_64 rfl rF_26_178 (gM hp) rfl ?_
      refine Rg.ifne 89 70 F_Mo_make_67 rfl rfl (fun _ => ?_) (fun h67 => absurd h67 (by decide))
      exact Rg.retV F_Mo_make_89 rfl rfl
theorem c_Mo_change {d : Nat}  (hp : pre.length = 168) {a time f how : Int} (wA : 0 ≤ actions ∧ actions ≤ 12) (wc : ∀ k, 0 ≤ changes k ∧ changes k ≤ 6) (wcT : ∀ k, 0 ≤ changeTime k ∧ changeTime k ≤ 2) (wcO : ∀ k, 0 ≤ changeOf k ∧ changeOf k ≤ 15 ∧ (changeHow k ≤ 9 → changeOf k ≤ 7)) (wcH : ∀ k, 0 ≤ changeHow k ∧ changeHow k ≤ 11 ∧ (changeHow k ≤ 3 ∨ 10 ≤ changeHow k)) (b_0 : -2147483648 ≤ a ∧ a < 2147483648) (b_1 : -2147483648 ≤ time ∧ time < 2147483648) (b_2 : -2147483648 ≤ f ∧ f < 2147483648) (b_3 : -2147483648 ≤ how ∧ how < 2147483648) (h1 : 0 ≤ a ∧ a ≤ actions - 1) (h2 : 0 ≤ f ∧ f ≤ 7) (h5 : 0 ≤ how ∧ how ≤ 3) (h3 : time = 0 ∨ time = 2) (h4 : ¬ changes a = 6) (h6 : chg changes changeTime changeHow changeOf a time False f = -1) : Cg false (d + 2) m_Mo_change [.ref 168, .int (iI a), .int (iI time), .int (iI f), .int (iI how)] (MR pre code amountN amountD momentN momentD epsilonN epsilonD firstFacts firstN firstD wishes wants wantN wantD actions needs needTime needOf needHow needN needD changes changeTime changeOf changeHow changeN changeD lastOf lastN lastD steps stepAction startN startD lengthN lengthD rows row tried triedAction triedRows triedRow times unit facts numN numD oldFacts oldN oldD point judged fault faultPoint toldFacts toldN toldD outN outD pointN pointD gone now leastN leastD greatestN greatestD events post) (.inl none) (MR pre 0 amountN amountD momentN momentD epsilonN epsilonD firstFacts firstN firstD wishes wants wantN wantD actions needs needTime needOf needHow needN needD (up1 changes a (changes a + 1)) (up1 changeTime (6 * a + changes a) time) (up1 changeOf (6 * a + changes a) f) (up1 changeHow (6 * a + changes a) how) (up1 changeN (6 * a + changes a) amountN) (up1 changeD (6 * a + changes a) amountD) lastOf lastN lastD steps stepAction startN startD lengthN lengthD rows row tried triedAction triedRows triedRow times unit facts numN numD oldFacts oldN oldD point judged fault faultPoint toldFacts toldN toldD outN outD pointN pointD gone now leastN leastD greatestN greatestD events post) := by
  have c0 := wc a
  refine Cg.of (Nat.le_of_ble_eq_true rfl) ?_
  change Rg _ _ _ _ 0 [(0, .ref 168), (1, .int (iI a)), (2, .int (iI time)), (3, .int (iI f)), (4, .int (iI how))] [] _ _ _
  refine Rg.step 1 F_Mo_change_0 rfl (fun _ => rfl) ?_
  refine Rg.step 2 F_Mo_change_1 rfl (fun _ => rfl) ?_
  refine Rg.step 3 F_Mo_change_2 rfl (fun _ => rfl) ?_
  refine Rg.call 6 F_Mo_change_3 rfl (one_V rM_26_228 (by decide) (by simp) rfl rfl (gM hp) rfl) (Nat.le_of_ble_eq_true rfl) (Cg.any (c_Mo_isAction hp wA (by omega))) ?_
  refine Rg.ifeqP 16 9 F_Mo_change_6 rfl rfl (fun h6 => by omega) (fun _ => ?_)
  refine Rg.step 10 F_Mo_change_9 rfl (fun _ => rfl) ?_
  refine Rg.call 13 F_Mo_change_10 rfl (one_S (by decide +kernel) rM_26_225 (by decide) (by simp) rfl rfl) (Nat.le_of_ble_eq_true rfl) (Cg.any (c_Mo_isNumber (by omega))) ?_
  refine Rg.ifneP 20 16 F_Mo_change_13 rfl rfl (fun _ => ?_) (fun h13 => by omega)
  refine Rg.step 21 F_Mo_change_20 rfl (fun _ => rfl) ?_
  refine Rg.ifeqI 29 24 F_Mo_change_21 rfl rfl (by omega) (fun h21 => ?_) (fun h21 => ?_)
  · refine Rg.step 31 F_Mo_change_29 rfl (fun _ => rfl) ?_
    refine Rg.step 32 F_Mo_change_31 rfl (fun _ => rfl) ?_
    refine Rg.step 33 F_Mo_change_32 rfl (fun _ => rfl) ?_
    refine Rg.call 36 F_Mo_change_33 rfl (one_S (by decide +kernel) rM_26_200 (by decide) (by simp) rfl rfl) (Nat.le_of_ble_eq_true rfl) (Cg.any (c_Mo_in (by omega) (by omega) (by omega))) ?_
    refine Rg.ifneP 43 39 F_Mo_change_36 rfl rfl (fun _ => ?_) (fun h36 => by omega)
    refine Rg.step 44 F_Mo_change_43 rfl (fun _ => rfl) ?_
    refine Rg.getf 47 F_Mo_change_44 rfl rF_26_66 (gM hp) rfl ?_
    refine Rg.step 48 F_Mo_change_47 rfl (fun _ => rfl) ?_
    refine Rg.ild 49 F_Mo_change_48 rfl (gR_changes hp) (by omega) (by decide) ?_
    refine Rg.bip 51 F_Mo_change_49 rfl rfl ?_
    refine Rg.iceqI 65 54 F_Mo_change_51 rfl rfl (by omega) (by omega) (fun h51 => by omega) (fun _ => ?_)
    refine Rg.step 55 F_Mo_change_54 rfl (fun _ => rfl) ?_
    refine Rg.step 56 F_Mo_change_55 rfl (fun _ => rfl) ?_
    refine Rg.step 57 F_Mo_change_56 rfl (fun _ => rfl) ?_
    refine Rg.cP0 (B := False) 58 F_Mo_change_57 rfl (fun z => z) ?_
    refine Rg.step 59 F_Mo_change_58 rfl (fun _ => rfl) ?_
    refine Rg.call 62 F_Mo_change_59 rfl (one_V rM_26_235 (by decide) (by simp) rfl rfl (gM hp) rfl) (Nat.le_of_ble_eq_true rfl) (Cg.any (c_Mo_changing hp (by omega) wc wcT wcO wcH (by omega) (by omega))) ?_
    refine Rg.ifltI 69 65 F_Mo_change_62 rfl rfl (by omega) (fun _ => ?_) (fun h62 => by omega)
    refine Rg.step 70 F_Mo_change_69 rfl (fun _ => rfl) ?_
    refine Rg.put 73 F_Mo_change_70 rfl rF_26_178 (gM hp) (by decide) (Nat.le_of_ble_eq_true rfl) (Or.inl rfl) rfl (sM_code hp) ?_
    refine Rg.step 74 F_Mo_change_73 rfl (fun _ => rfl) ?_
    refine Rg.getf 77 F_Mo_change_74 rfl rF_26_178 (gM hp) rfl ?_
    refine Rg.ifne 89 80 F_Mo_change_77 rfl rfl (fun h77 => absurd h77 (by decide)) (fun _ => ?_)
    refine Rg.step 81 F_Mo_change_80 rfl (fun _ => rfl) ?_
    refine Rg.step 82 F_Mo_change_81 rfl (fun _ => rfl) ?_
    refine Rg.step 83 F_Mo_change_82 rfl (fun _ => rfl) ?_
    refine Rg.step 84 F_Mo_change_83 rfl (fun _ => rfl) ?_
    refine Rg.step 86 F_Mo_change_84 rfl (fun _ => rfl) ?_
    refine Rg.call 89 F_Mo_change_86 rfl (one_V rM_26_239 (by decide) (by simp) rfl rfl (gM hp) rfl) (Nat.le_of_ble_eq_true rfl) (c_Mo_addChange hp (by omega) (by omega)) ?_
    exact Rg.retV F_Mo_change_89 rfl rfl
  · refine Rg.step 25 F_Mo_change_24 rfl (fun _ => rfl) ?_
    refine Rg.step 26 F_Mo_change_25 rfl (fun _ => rfl) ?_
    refine Rg.icneI 39 29 F_Mo_change_26 rfl rfl (by omega) (by omega) (fun h26 => by omega) (fun _ => ?_)
    refine Rg.step 31 F_Mo_change_29 rfl (fun _ => rfl) ?_
    refine Rg.step 32 F_Mo_change_31 rfl (fun _ => rfl) ?_
    refine Rg.step 33 F_Mo_change_32 rfl (fun _ => rfl) ?_
    refine Rg.call 36 F_Mo_change_33 rfl (one_S (by decide +kernel) rM_26_200 (by decide) (by simp) rfl rfl) (Nat.le_of_ble_eq_true rfl) (Cg.any (c_Mo_in (by omega) (by omega) (by omega))) ?_
    refine Rg.ifneP 43 39 F_Mo_change_36 rfl rfl (fun _ => ?_) (fun h36 => by omega)
    refine Rg.step 44 F_Mo_change_43 rfl (fun _ => rfl) ?_
    refine Rg.getf 47 F_Mo_change_44 rfl rF_26_66 (gM hp) rfl ?_
    refine Rg.step 48 F_Mo_change_47 rfl (fun _ => rfl) ?_
    refine Rg.ild 49 F_Mo_change_48 rfl (gR_changes hp) (by omega) (by decide) ?_
    refine Rg.bip 51 F_Mo_change_49 rfl rfl ?_
    refine Rg.iceqI 65 54 F_Mo_change_51 rfl rfl (by omega) (by omega) (fun h51 => by omega) (fun _ => ?_)
    refine Rg.step 55 F_Mo_change_54 rfl (fun _ => rfl) ?_
    refine Rg.step 56 F_Mo_change_55 rfl (fun _ => rfl) ?_
    refine Rg.step 57 F_Mo_change_56 rfl (fun _ => rfl) ?_
    refine Rg.cP0 (B := False) 58 F_Mo_change_57 rfl (fun z => z) ?_
    refine Rg.step 59 F_Mo_change_58 rfl (fun _ => rfl) ?_
    refine Rg.call 62 F_Mo_change_59 rfl (one_V rM_26_235 (by decide) (by simp) rfl rfl (gM hp) rfl) (Nat.le_of_ble_eq_true rfl) (Cg.any (c_Mo_changing hp (by omega) wc wcT wcO wcH (by omega) (by omega))) ?_
    refine Rg.ifltI 69 65 F_Mo_change_62 rfl rfl (by omega) (fun _ => ?_) (fun h62 => by omega)
    refine Rg.step 70 F_Mo_change_69 rfl (fun _ => rfl) ?_
    refine Rg.put 73 F_Mo_change_70 rfl rF_26_178 (gM hp) (by decide) (Nat.le_of_ble_eq_true rfl) (Or.inl rfl) rfl (sM_code hp) ?_
    refine Rg.step 74 F_Mo_change_73 rfl (fun _ => rfl) ?_
    refine Rg.getf 77 F_Mo_change_74 rfl rF_26_178 (gM hp) rfl ?_
    refine Rg.ifne 89 80 F_Mo_change_77 rfl rfl (fun h77 => absurd h77 (by decide)) (fun _ => ?_)
    refine Rg.step 81 F_Mo_change_80 rfl (fun _ => rfl) ?_
    refine Rg.step 82 F_Mo_change_81 rfl (fun _ => rfl) ?_
    refine Rg.step 83 F_Mo_change_82 rfl (fun _ => rfl) ?_
    refine Rg.step 84 F_Mo_change_83 rfl (fun _ => rfl) ?_
    refine Rg.step 86 F_Mo_change_84 rfl (fun _ => rfl) ?_
    refine Rg.call 89 F_Mo_change_86 rfl (one_V rM_26_239 (by decide) (by simp) rfl rfl (gM hp) rfl) (Nat.le_of_ble_eq_true rfl) (c_Mo_addChange hp (by omega) (by omega)) ?_
    exact Rg.retV F_Mo_change_89 rfl rfl
theorem c_Mo_change1 {d : Nat}  (hp : pre.length = 168) {a time f how : Int} (wA : 0 ≤ actions ∧ actions ≤ 12) (wc : ∀ k, 0 ≤ changes k ∧ changes k ≤ 6) (wcT : ∀ k, 0 ≤ changeTime k ∧ changeTime k ≤ 2) (wcO : ∀ k, 0 ≤ changeOf k ∧ changeOf k ≤ 15 ∧ (changeHow k ≤ 9 → changeOf k ≤ 7)) (wcH : ∀ k, 0 ≤ changeHow k ∧ changeHow k ≤ 11 ∧ (changeHow k ≤ 3 ∨ 10 ≤ changeHow k)) (b_0 : -2147483648 ≤ a ∧ a < 2147483648) (b_1 : -2147483648 ≤ time ∧ time < 2147483648) (b_2 : -2147483648 ≤ f ∧ f < 2147483648) (b_3 : -2147483648 ≤ how ∧ how < 2147483648) (h1 : ¬ (0 ≤ a ∧ a ≤ actions - 1) ∨ ¬ (0 ≤ f ∧ f ≤ 7)) : Cg false (d + 2) m_Mo_change [.ref 168, .int (iI a), .int (iI time), .int (iI f), .int (iI how)] (MR pre code amountN amountD momentN momentD epsilonN epsilonD firstFacts firstN firstD wishes wants wantN wantD actions needs needTime needOf needHow needN needD changes changeTime changeOf changeHow changeN changeD lastOf lastN lastD steps stepAction startN startD lengthN lengthD rows row tried triedAction triedRows triedRow times unit facts numN numD oldFacts oldN oldD point judged fault faultPoint toldFacts toldN toldD outN outD pointN pointD gone now leastN leastD greatestN greatestD events post) (.inl none) (MR pre 1 amountN amountD momentN momentD epsilonN epsilonD firstFacts firstN firstD wishes wants wantN wantD actions needs needTime needOf needHow needN needD changes changeTime changeOf changeHow changeN changeD lastOf lastN lastD steps stepAction startN startD lengthN lengthD rows row tried triedAction triedRows triedRow times unit facts numN numD oldFacts oldN oldD point judged fault faultPoint toldFacts toldN toldD outN outD pointN pointD gone now leastN leastD greatestN greatestD events post) := by
  refine Cg.of (Nat.le_of_ble_eq_true rfl) ?_
  change Rg _ _ _ _ 0 [(0, .ref 168), (1, .int (iI a)), (2, .int (iI time)), (3, .int (iI f)), (4, .int (iI how))] [] _ _ _
  refine Rg.step 1 F_Mo_change_0 rfl (fun _ => rfl) ?_
  refine Rg.step 2 F_Mo_change_1 rfl (fun _ => rfl) ?_
  refine Rg.step 3 F_Mo_change_2 rfl (fun _ => rfl) ?_
  refine Rg.call 6 F_Mo_change_3 rfl (one_V rM_26_228 (by decide) (by simp) rfl rfl (gM hp) rfl) (Nat.le_of_ble_eq_true rfl) (Cg.any (c_Mo_isAction hp wA (by omega))) ?_
  refine Rg.ifeqP 16 9 F_Mo_change_6 rfl rfl (fun h6 => ?_) (fun h6 => ?_)
  · refine Rg.step 17 F_Mo_change_16 rfl (fun _ => rfl) ?_
    refine Rg.step 70 F_Mo_change_17 rfl (fun _ => rfl) ?_
    refine Rg.put 73 F_Mo_change_70 rfl rF_26_178 (gM hp) (by decide) (Nat.le_of_ble_eq_true rfl) (Or.inl rfl) rfl (sM_code hp) ?_
    refine Rg.step 74 F_Mo_change_73 rfl (fun _ => rfl) ?_
    refine Rg.getf 77 F_Mo_change_74 rfl rF_26_178 (gM hp) rfl ?_
    refine Rg.ifne 89 80 F_Mo_change_77 rfl rfl (fun _ => ?_) (fun h77 => absurd h77 (by decide))
    exact Rg.retV F_Mo_change_89 rfl rfl
  · refine Rg.step 10 F_Mo_change_9 rfl (fun _ => rfl) ?_
    refine Rg.call 13 F_Mo_change_10 rfl (one_S (by decide +kernel) rM_26_225 (by decide) (by simp) rfl rfl) (Nat.le_of_ble_eq_true rfl) (Cg.any (c_Mo_isNumber (by omega))) ?_
    refine Rg.ifneP 20 16 F_Mo_change_13 rfl rfl (fun h13 => by omega) (fun _ => ?_)
    refine Rg.step 17 F_Mo_change_16 rfl (fun _ => rfl) ?_
    refine Rg.step 70 F_Mo_change_17 rfl (fun _ => rfl) ?_
    refine Rg.put 73 F_Mo_change_70 rfl rF_26_178 (gM hp) (by decide) (Nat.le_of_ble_eq_true rfl) (Or.inl rfl) rfl (sM_code hp) ?_
    refine Rg.step 74 F_Mo_change_73 rfl (fun _ => rfl) ?_
    refine Rg.getf 77 F_Mo_change_74 rfl rF_26_178 (gM hp) rfl ?_
    refine Rg.ifne 89 80 F_Mo_change_77 rfl rfl (fun _ => ?_) (fun h77 => absurd h77 (by decide))
    exact Rg.retV F_Mo_change_89 rfl rfl
theorem c_Mo_change2 {d : Nat}  (hp : pre.length = 168) {a time f how : Int} (wA : 0 ≤ actions ∧ actions ≤ 12) (wc : ∀ k, 0 ≤ changes k ∧ changes k ≤ 6) (wcT : ∀ k, 0 ≤ changeTime k ∧ changeTime k ≤ 2) (wcO : ∀ k, 0 ≤ changeOf k ∧ changeOf k ≤ 15 ∧ (changeHow k ≤ 9 → changeOf k ≤ 7)) (wcH : ∀ k, 0 ≤ changeHow k ∧ changeHow k ≤ 11 ∧ (changeHow k ≤ 3 ∨ 10 ≤ changeHow k)) (b_0 : -2147483648 ≤ a ∧ a < 2147483648) (b_1 : -2147483648 ≤ time ∧ time < 2147483648) (b_2 : -2147483648 ≤ f ∧ f < 2147483648) (b_3 : -2147483648 ≤ how ∧ how < 2147483648) (h1 : 0 ≤ a ∧ a ≤ actions - 1) (h2 : 0 ≤ f ∧ f ≤ 7) (h3 : ¬ (time = 0 ∨ time = 2) ∨ ¬ (0 ≤ how ∧ how ≤ 3)) : Cg false (d + 2) m_Mo_change [.ref 168, .int (iI a), .int (iI time), .int (iI f), .int (iI how)] (MR pre code amountN amountD momentN momentD epsilonN epsilonD firstFacts firstN firstD wishes wants wantN wantD actions needs needTime needOf needHow needN needD changes changeTime changeOf changeHow changeN changeD lastOf lastN lastD steps stepAction startN startD lengthN lengthD rows row tried triedAction triedRows triedRow times unit facts numN numD oldFacts oldN oldD point judged fault faultPoint toldFacts toldN toldD outN outD pointN pointD gone now leastN leastD greatestN greatestD events post) (.inl none) (MR pre 2 amountN amountD momentN momentD epsilonN epsilonD firstFacts firstN firstD wishes wants wantN wantD actions needs needTime needOf needHow needN needD changes changeTime changeOf changeHow changeN changeD lastOf lastN lastD steps stepAction startN startD lengthN lengthD rows row tried triedAction triedRows triedRow times unit facts numN numD oldFacts oldN oldD point judged fault faultPoint toldFacts toldN toldD outN outD pointN pointD gone now leastN leastD greatestN greatestD events post) := by
  refine Cg.of (Nat.le_of_ble_eq_true rfl) ?_
  change Rg _ _ _ _ 0 [(0, .ref 168), (1, .int (iI a)), (2, .int (iI time)), (3, .int (iI f)), (4, .int (iI how))] [] _ _ _
  refine Rg.step 1 F_Mo_change_0 rfl (fun _ => rfl) ?_
  refine Rg.step 2 F_Mo_change_1 rfl (fun _ => rfl) ?_
  refine Rg.step 3 F_Mo_change_2 rfl (fun _ => rfl) ?_
  refine Rg.call 6 F_Mo_change_3 rfl (one_V rM_26_228 (by decide) (by simp) rfl rfl (gM hp) rfl) (Nat.le_of_ble_eq_true rfl) (Cg.any (c_Mo_isAction hp wA (by omega))) ?_
  refine Rg.ifeqP 16 9 F_Mo_change_6 rfl rfl (fun h6 => by omega) (fun _ => ?_)
  refine Rg.step 10 F_Mo_change_9 rfl (fun _ => rfl) ?_
  refine Rg.call 13 F_Mo_change_10 rfl (one_S (by decide +kernel) rM_26_225 (by decide) (by simp) rfl rfl) (Nat.le_of_ble_eq_true rfl) (Cg.any (c_Mo_isNumber (by omega))) ?_
  refine Rg.ifneP 20 16 F_Mo_change_13 rfl rfl (fun _ => ?_) (fun h13 => by omega)
  refine Rg.step 21 F_Mo_change_20 rfl (fun _ => rfl) ?_
  refine Rg.ifeqI 29 24 F_Mo_change_21 rfl rfl (by omega) (fun h21 => ?_) (fun h21 => ?_)
  · refine Rg.step 31 F_Mo_change_29 rfl (fun _ => rfl) ?_
    refine Rg.step 32 F_Mo_change_31 rfl (fun _ => rfl) ?_
    refine Rg.step 33 F_Mo_change_32 rfl (fun _ => rfl) ?_
    refine Rg.call 36 F_Mo_change_33 rfl (one_S (by decide +kernel) rM_26_200 (by decide) (by simp) rfl rfl) (Nat.le_of_ble_eq_true rfl) (Cg.any (c_Mo_in (by omega) (by omega) (by omega))) ?_
    refine Rg.ifneP 43 39 F_Mo_change_36 rfl rfl (fun h36 => by omega) (fun _ => ?_)
    refine Rg.step 40 F_Mo_change_39 rfl (fun _ => rfl) ?_
    refine Rg.step 70 F_Mo_change_40 rfl (fun _ => rfl) ?_
    refine Rg.put 73 F_Mo_change_70 rfl rF_26_178 (gM hp) (by decide) (Nat.le_of_ble_eq_true rfl) (Or.inl rfl) rfl (sM_code hp) ?_
    refine Rg.step 74 F_Mo_change_73 rfl (fun _ => rfl) ?_
    refine Rg.getf 77 F_Mo_change_74 rfl rF_26_178 (gM hp) rfl ?_
    refine Rg.ifne 89 80 F_Mo_change_77 rfl rfl (fun _ => ?_) (fun h77 => absurd h77 (by decide))
    exact Rg.retV F_Mo_change_89 rfl rfl
  · refine Rg.step 25 F_Mo_change_24 rfl (fun _ => rfl) ?_
    refine Rg.step 26 F_Mo_change_25 rfl (fun _ => rfl) ?_
    refine Rg.icneI 39 29 F_Mo_change_26 rfl rfl (by omega) (by omega) (fun h26 => ?_) (fun h26 => ?_)
    · refine Rg.step 40 F_Mo_change_39 rfl (fun _ => rfl) ?_
      refine Rg.step 70 F_Mo_change_40 rfl (fun _ => rfl) ?_
      refine Rg.put 73 F_Mo_change_70 rfl rF_26_178 (gM hp) (by decide) (Nat.le_of_ble_eq_true rfl) (Or.inl rfl) rfl (sM_code hp) ?_
      refine Rg.step 74 F_Mo_change_73 rfl (fun _ => rfl) ?_
      refine Rg.getf 77 F_Mo_change_74 rfl rF_26_178 (gM hp) rfl ?_
      refine Rg.ifne 89 80 F_Mo_change_77 rfl rfl (fun _ => ?_) (fun h77 => absurd h77 (by decide))
      exact Rg.retV F_Mo_change_89 rfl rfl
    · refine Rg.step 31 F_Mo_change_29 rfl (fun _ => rfl) ?_
      refine Rg.step 32 F_Mo_change_31 rfl (fun _ => rfl) ?_
      refine Rg.step 33 F_Mo_change_32 rfl (fun _ => rfl) ?_
      refine Rg.call 36 F_Mo_change_33 rfl (one_S (by decide +kernel) rM_26_200 (by decide) (by simp) rfl rfl) (Nat.le_of_ble_eq_true rfl) (Cg.any (c_Mo_in (by omega) (by omega) (by omega))) ?_
      refine Rg.ifneP 43 39 F_Mo_change_36 rfl rfl (fun h36 => by omega) (fun _ => ?_)
      refine Rg.step 40 F_Mo_change_39 rfl (fun _ => rfl) ?_
      refine Rg.step 70 F_Mo_change_40 rfl (fun _ => rfl) ?_
      refine Rg.put 73 F_Mo_change_70 rfl rF_26_178 (gM hp) (by decide) (Nat.le_of_ble_eq_true rfl) (Or.inl rfl) rfl (sM_code hp) ?_
      refine Rg.step 74 F_Mo_change_73 rfl (fun _ => rfl) ?_
      refine Rg.getf 77 F_Mo_change_74 rfl rF_26_178 (gM hp) rfl ?_
      refine Rg.ifne 89 80 F_Mo_change_77 rfl rfl (fun _ => ?_) (fun h77 => absurd h77 (by decide))
      exact Rg.retV F_Mo_change_89 rfl rfl
theorem c_Mo_change3 {d : Nat}  (hp : pre.length = 168) {a time f how : Int} (wA : 0 ≤ actions ∧ actions ≤ 12) (wc : ∀ k, 0 ≤ changes k ∧ changes k ≤ 6) (wcT : ∀ k, 0 ≤ changeTime k ∧ changeTime k ≤ 2) (wcO : ∀ k, 0 ≤ changeOf k ∧ changeOf k ≤ 15 ∧ (changeHow k ≤ 9 → changeOf k ≤ 7)) (wcH : ∀ k, 0 ≤ changeHow k ∧ changeHow k ≤ 11 ∧ (changeHow k ≤ 3 ∨ 10 ≤ changeHow k)) (b_0 : -2147483648 ≤ a ∧ a < 2147483648) (b_1 : -2147483648 ≤ time ∧ time < 2147483648) (b_2 : -2147483648 ≤ f ∧ f < 2147483648) (b_3 : -2147483648 ≤ how ∧ how < 2147483648) (h1 : 0 ≤ a ∧ a ≤ actions - 1) (h2 : 0 ≤ f ∧ f ≤ 7) (h3 : time = 0 ∨ time = 2) (h5 : 0 ≤ how ∧ how ≤ 3) (h4 : changes a = 6 ∨ 0 ≤ chg changes changeTime changeHow changeOf a time False f) : Cg false (d + 2) m_Mo_change [.ref 168, .int (iI a), .int (iI time), .int (iI f), .int (iI how)] (MR pre code amountN amountD momentN momentD epsilonN epsilonD firstFacts firstN firstD wishes wants wantN wantD actions needs needTime needOf needHow needN needD changes changeTime changeOf changeHow changeN changeD lastOf lastN lastD steps stepAction startN startD lengthN lengthD rows row tried triedAction triedRows triedRow times unit facts numN numD oldFacts oldN oldD point judged fault faultPoint toldFacts toldN toldD outN outD pointN pointD gone now leastN leastD greatestN greatestD events post) (.inl none) (MR pre 3 amountN amountD momentN momentD epsilonN epsilonD firstFacts firstN firstD wishes wants wantN wantD actions needs needTime needOf needHow needN needD changes changeTime changeOf changeHow changeN changeD lastOf lastN lastD steps stepAction startN startD lengthN lengthD rows row tried triedAction triedRows triedRow times unit facts numN numD oldFacts oldN oldD point judged fault faultPoint toldFacts toldN toldD outN outD pointN pointD gone now leastN leastD greatestN greatestD events post) := by
  have c0 := wc a
  have c9 : -1 ≤ chg changes changeTime changeHow changeOf a time False f ∧ chg changes changeTime changeHow changeOf a time False f < 100 := by have z := fnd_bd (A := fun k => changeTime k = time ∧ (9 < changeHow k ↔ False) ∧ changeOf k = f) (changes a).toNat (6 * a); unfold chg; omega
  refine Cg.of (Nat.le_of_ble_eq_true rfl) ?_
  change Rg _ _ _ _ 0 [(0, .ref 168), (1, .int (iI a)), (2, .int (iI time)), (3, .int (iI f)), (4, .int (iI how))] [] _ _ _
  refine Rg.step 1 F_Mo_change_0 rfl (fun _ => rfl) ?_
  refine Rg.step 2 F_Mo_change_1 rfl (fun _ => rfl) ?_
  refine Rg.step 3 F_Mo_change_2 rfl (fun _ => rfl) ?_
  refine Rg.call 6 F_Mo_change_3 rfl (one_V rM_26_228 (by decide) (by simp) rfl rfl (gM hp) rfl) (Nat.le_of_ble_eq_true rfl) (Cg.any (c_Mo_isAction hp wA (by omega))) ?_
  refine Rg.ifeqP 16 9 F_Mo_change_6 rfl rfl (fun h6 => by omega) (fun _ => ?_)
  refine Rg.step 10 F_Mo_change_9 rfl (fun _ => rfl) ?_
  refine Rg.call 13 F_Mo_change_10 rfl (one_S (by decide +kernel) rM_26_225 (by decide) (by simp) rfl rfl) (Nat.le_of_ble_eq_true rfl) (Cg.any (c_Mo_isNumber (by omega))) ?_
  refine Rg.ifneP 20 16 F_Mo_change_13 rfl rfl (fun _ => ?_) (fun h13 => by omega)
  refine Rg.step 21 F_Mo_change_20 rfl (fun _ => rfl) ?_
  refine Rg.ifeqI 29 24 F_Mo_change_21 rfl rfl (by omega) (fun h21 => ?_) (fun h21 => ?_)
  · refine Rg.step 31 F_Mo_change_29 rfl (fun _ => rfl) ?_
    refine Rg.step 32 F_Mo_change_31 rfl (fun _ => rfl) ?_
    refine Rg.step 33 F_Mo_change_32 rfl (fun _ => rfl) ?_
    refine Rg.call 36 F_Mo_change_33 rfl (one_S (by decide +kernel) rM_26_200 (by decide) (by simp) rfl rfl) (Nat.le_of_ble_eq_true rfl) (Cg.any (c_Mo_in (by omega) (by omega) (by omega))) ?_
    refine Rg.ifneP 43 39 F_Mo_change_36 rfl rfl (fun _ => ?_) (fun h36 => by omega)
    refine Rg.step 44 F_Mo_change_43 rfl (fun _ => rfl) ?_
    refine Rg.getf 47 F_Mo_change_44 rfl rF_26_66 (gM hp) rfl ?_
    refine Rg.step 48 F_Mo_change_47 rfl (fun _ => rfl) ?_
    refine Rg.ild 49 F_Mo_change_48 rfl (gR_changes hp) (by omega) (by decide) ?_
    refine Rg.bip 51 F_Mo_change_49 rfl rfl ?_
    refine Rg.iceqI 65 54 F_Mo_change_51 rfl rfl (by omega) (by omega) (fun h51 => ?_) (fun h51 => ?_)
    · refine Rg.step 66 F_Mo_change_65 rfl (fun _ => rfl) ?_
      refine Rg.step 70 F_Mo_change_66 rfl (fun _ => rfl) ?_
      refine Rg.put 73 F_Mo_change_70 rfl rF_26_178 (gM hp) (by decide) (Nat.le_of_ble_eq_true rfl) (Or.inl rfl) rfl (sM_code hp) ?_
      refine Rg.step 74 F_Mo_change_73 rfl (fun _ => rfl) ?_
      refine Rg.getf 77 F_Mo_change_74 rfl rF_26_178 (gM hp) rfl ?_
      refine Rg.ifne 89 80 F_Mo_change_77 rfl rfl (fun _ => ?_) (fun h77 => absurd h77 (by decide))
      exact Rg.retV F_Mo_change_89 rfl rfl
    · refine Rg.step 55 F_Mo_change_54 rfl (fun _ => rfl) ?_
      refine Rg.step 56 F_Mo_change_55 rfl (fun _ => rfl) ?_
      refine Rg.step 57 F_Mo_change_56 rfl (fun _ => rfl) ?_
      refine Rg.cP0 (B := False) 58 F_Mo_change_57 rfl (fun z => z) ?_
      refine Rg.step 59 F_Mo_change_58 rfl (fun _ => rfl) ?_
      refine Rg.call 62 F_Mo_change_59 rfl (one_V rM_26_235 (by decide) (by simp) rfl rfl (gM hp) rfl) (Nat.le_of_ble_eq_true rfl) (Cg.any (c_Mo_changing hp (by omega) wc wcT wcO wcH (by omega) (by omega))) ?_
      refine Rg.ifltI 69 65 F_Mo_change_62 rfl rfl (by omega) (fun h62 => by omega) (fun _ => ?_)
      refine Rg.step 66 F_Mo_change_65 rfl (fun _ => rfl) ?_
      refine Rg.step 70 F_Mo_change_66 rfl (fun _ => rfl) ?_
      refine Rg.put 73 F_Mo_change_70 rfl rF_26_178 (gM hp) (by decide) (Nat.le_of_ble_eq_true rfl) (Or.inl rfl) rfl (sM_code hp) ?_
      refine Rg.step 74 F_Mo_change_73 rfl (fun _ => rfl) ?_
      refine Rg.getf 77 F_Mo_change_74 rfl rF_26_178 (gM hp) rfl ?_
      refine Rg.ifne 89 80 F_Mo_change_77 rfl rfl (fun _ => ?_) (fun h77 => absurd h77 (by decide))
      exact Rg.retV F_Mo_change_89 rfl rfl
  · refine Rg.step 25 F_Mo_change_24 rfl (fun _ => rfl) ?_
    refine Rg.step 26 F_Mo_change_25 rfl (fun _ => rfl) ?_
    refine Rg.icneI 39 29 F_Mo_change_26 rfl rfl (by omega) (by omega) (fun h26 => by omega) (fun _ => ?_)
    refine Rg.step 31 F_Mo_change_29 rfl (fun _ => rfl) ?_
    refine Rg.step 32 F_Mo_change_31 rfl (fun _ => rfl) ?_
    refine Rg.step 33 F_Mo_change_32 rfl (fun _ => rfl) ?_
    refine Rg.call 36 F_Mo_change_33 rfl (one_S (by decide +kernel) rM_26_200 (by decide) (by simp) rfl rfl) (Nat.le_of_ble_eq_true rfl) (Cg.any (c_Mo_in (by omega) (by omega) (by omega))) ?_
    refine Rg.ifneP 43 39 F_Mo_change_36 rfl rfl (fun _ => ?_) (fun h36 => by omega)
    refine Rg.step 44 F_Mo_change_43 rfl (fun _ => rfl) ?_
    refine Rg.getf 47 F_Mo_change_44 rfl rF_26_66 (gM hp) rfl ?_
    refine Rg.step 48 F_Mo_change_47 rfl (fun _ => rfl) ?_
    refine Rg.ild 49 F_Mo_change_48 rfl (gR_changes hp) (by omega) (by decide) ?_
    refine Rg.bip 51 F_Mo_change_49 rfl rfl ?_
    refine Rg.iceqI 65 54 F_Mo_change_51 rfl rfl (by omega) (by omega) (fun h51 => ?_) (fun h51 => ?_)
    · refine Rg.step 66 F_Mo_change_65 rfl (fun _ => rfl) ?_
      refine Rg.step 70 F_Mo_change_66 rfl (fun _ => rfl) ?_
      refine Rg.put 73 F_Mo_change_70 rfl rF_26_178 (gM hp) (by decide) (Nat.le_of_ble_eq_true rfl) (Or.inl rfl) rfl (sM_code hp) ?_
      refine Rg.step 74 F_Mo_change_73 rfl (fun _ => rfl) ?_
      refine Rg.getf 77 F_Mo_change_74 rfl rF_26_178 (gM hp) rfl ?_
      refine Rg.ifne 89 80 F_Mo_change_77 rfl rfl (fun _ => ?_) (fun h77 => absurd h77 (by decide))
      exact Rg.retV F_Mo_change_89 rfl rfl
    · refine Rg.step 55 F_Mo_change_54 rfl (fun _ => rfl) ?_
      refine Rg.step 56 F_Mo_change_55 rfl (fun _ => rfl) ?_
      refine Rg.step 57 F_Mo_change_56 rfl (fun _ => rfl) ?_
      refine Rg.cP0 (B := False) 58 F_Mo_change_57 rfl (fun z => z) ?_
      refine Rg.step 59 F_Mo_change_58 rfl (fun _ => rfl) ?_
      refine Rg.call 62 F_Mo_change_59 rfl (one_V rM_26_235 (by decide) (by simp) rfl rfl (gM hp) rfl) (Nat.le_of_ble_eq_true rfl) (Cg.any (c_Mo_changing hp (by omega) wc wcT wcO wcH (by omega) (by omega))) ?_
      refine Rg.ifltI 69 65 F_Mo_change_62 rfl rfl (by omega) (fun h62 => by omega) (fun _ => ?_)
      refine Rg.step 66 F_Mo_change_65 rfl (fun _ => rfl) ?_
      refine Rg.step 70 F_Mo_change_66 rfl (fun _ => rfl) ?_
      refine Rg.put 73 F_Mo_change_70 rfl rF_26_178 (gM hp) (by decide) (Nat.le_of_ble_eq_true rfl) (Or.inl rfl) rfl (sM_code hp) ?_
      refine Rg.step 74 F_Mo_change_73 rfl (fun _ => rfl) ?_
      refine Rg.getf 77 F_Mo_change_74 rfl rF_26_178 (gM hp) rfl ?_
      refine Rg.ifne 89 80 F_Mo_change_77 rfl rfl (fun _ => ?_) (fun h77 => absurd h77 (by decide))
      exact Rg.retV F_Mo_change_89 rfl rfl
theorem c_Mo_last {d : Nat}  (hp : pre.length = 168) {a which n : Int} (wA : 0 ≤ actions ∧ actions ≤ 12) (b_0 : -2147483648 ≤ a ∧ a < 2147483648) (b_1 : -2147483648 ≤ which ∧ which < 2147483648) (b_2 : -2147483648 ≤ n ∧ n < 2147483648) (h1 : 0 ≤ a ∧ a ≤ actions - 1) (h2 : -2 ≤ n ∧ n ≤ 7) (h3 : 0 ≤ which ∧ which ≤ 1) : Cg false (d + 2) m_Mo_last [.ref 168, .int (iI a), .int (iI which), .int (iI n)] (MR pre code amountN amountD momentN momentD epsilonN epsilonD firstFacts firstN firstD wishes wants wantN wantD actions needs needTime needOf needHow needN needD changes changeTime changeOf changeHow changeN changeD lastOf lastN lastD steps stepAction startN startD lengthN lengthD rows row tried triedAction triedRows triedRow times unit facts numN numD oldFacts oldN oldD point judged fault faultPoint toldFacts toldN toldD outN outD pointN pointD gone now leastN leastD greatestN greatestD events post) (.inl none) (MR pre 0 amountN amountD momentN momentD epsilonN epsilonD firstFacts firstN firstD wishes wants wantN wantD actions needs needTime needOf needHow needN needD changes changeTime changeOf changeHow changeN changeD (up1 lastOf (2 * a + which) n) (up1 lastN (2 * a + which) amountN) (up1 lastD (2 * a + which) amountD) steps stepAction startN startD lengthN lengthD rows row tried triedAction triedRows triedRow times unit facts numN numD oldFacts oldN oldD point judged fault faultPoint toldFacts toldN toldD outN outD pointN pointD gone now leastN leastD greatestN greatestD events post) := by
  refine Cg.of (Nat.le_of_ble_eq_true rfl) ?_
  change Rg _ _ _ _ 0 [(0, .ref 168), (1, .int (iI a)), (2, .int (iI which)), (3, .int (iI n))] [] _ _ _
  refine Rg.step 1 F_Mo_last_0 rfl (fun _ => rfl) ?_
  refine Rg.step 2 F_Mo_last_1 rfl (fun _ => rfl) ?_
  refine Rg.step 3 F_Mo_last_2 rfl (fun _ => rfl) ?_
  refine Rg.call 6 F_Mo_last_3 rfl (one_V rM_26_228 (by decide) (by simp) rfl rfl (gM hp) rfl) (Nat.le_of_ble_eq_true rfl) (Cg.any (c_Mo_isAction hp wA (by omega))) ?_
  refine Rg.ifeqP 20 9 F_Mo_last_6 rfl rfl (fun h6 => by omega) (fun _ => ?_)
  refine Rg.step 10 F_Mo_last_9 rfl (fun _ => rfl) ?_
  refine Rg.bip 12 F_Mo_last_10 rfl rfl ?_
  refine Rg.bip 14 F_Mo_last_12 rfl rfl ?_
  refine Rg.call 17 F_Mo_last_14 rfl (one_S (by decide +kernel) rM_26_200 (by decide) (by simp) rfl rfl) (Nat.le_of_ble_eq_true rfl) (Cg.any (c_Mo_in (by omega) (by omega) (by omega))) ?_
  refine Rg.ifneP 24 20 F_Mo_last_17 rfl rfl (fun _ => ?_) (fun h17 => by omega)
  refine Rg.step 25 F_Mo_last_24 rfl (fun _ => rfl) ?_
  refine Rg.step 26 F_Mo_last_25 rfl (fun _ => rfl) ?_
  refine Rg.step 27 F_Mo_last_26 rfl (fun _ => rfl) ?_
  refine Rg.call 30 F_Mo_last_27 rfl (one_S (by decide +kernel) rM_26_200 (by decide) (by simp) rfl rfl) (Nat.le_of_ble_eq_true rfl) (Cg.any (c_Mo_in (by omega) (by omega) (by omega))) ?_
  refine Rg.ifneP 37 33 F_Mo_last_30 rfl rfl (fun _ => ?_) (fun h30 => by omega)
  refine Rg.step 38 F_Mo_last_37 rfl (fun _ => rfl) ?_
  refine Rg.put 41 F_Mo_last_38 rfl rF_26_178 (gM hp) (by decide) (Nat.le_of_ble_eq_true rfl) (Or.inl rfl) rfl (sM_code hp) ?_
  refine Rg.step 42 F_Mo_last_41 rfl (fun _ => rfl) ?_
  refine Rg.getf 45 F_Mo_last_42 rfl rF_26_178 (gM hp) rfl ?_
  refine Rg.ifle 49 48 F_Mo_last_45 rfl rfl (fun _ => ?_) (fun h45 => absurd h45 (by decide))
  refine Rg.step 50 F_Mo_last_49 rfl (fun _ => rfl) ?_
  refine Rg.getf 53 F_Mo_last_50 rfl rF_26_84 (gM hp) rfl ?_
  refine Rg.step 54 F_Mo_last_53 rfl (fun _ => rfl) ?_
  refine Rg.step 55 F_Mo_last_54 rfl (fun _ => rfl) ?_
  refine Rg.mulI 56 F_Mo_last_55 rfl ?_
  refine Rg.step 57 F_Mo_last_56 rfl (fun _ => rfl) ?_
  refine Rg.addI 58 F_Mo_last_57 rfl ?_
  refine Rg.step 59 F_Mo_last_58 rfl (fun _ => rfl) ?_
  refine Rg.ist 60 F_Mo_last_59 rfl (gR_lastOf hp) (by decide) (sR_lastOf hp) (by omega) (by decide) ?_
  refine Rg.step 61 F_Mo_last_60 rfl (fun _ => rfl) ?_
  refine Rg.getf 64 F_Mo_last_61 rfl rF_26_87 (gM hp) rfl ?_
  refine Rg.step 65 F_Mo_last_64 rfl (fun _ => rfl) ?_
  refine Rg.step 66 F_Mo_last_65 rfl (fun _ => rfl) ?_
  refine Rg.mulI 67 F_Mo_last_66 rfl ?_
  refine Rg.step 68 F_Mo_last_67 rfl (fun _ => rfl) ?_
  refine Rg.addI 69 F_Mo_last_68 rfl ?_
  refine Rg.step 70 F_Mo_last_69 rfl (fun _ => rfl) ?_
  refine Rg.getf 73 F_Mo_last_70 rfl rF_26_212 (gM hp) rfl ?_
  refine Rg.lst 74 F_Mo_last_73 rfl (gR_lastN hp) (by decide) (sR_lastN hp) (by omega) (by decide) ?_
  refine Rg.step 75 F_Mo_last_74 rfl (fun _ => rfl) ?_
  refine Rg.getf 78 F_Mo_last_75 rfl rF_26_90 (gM hp) rfl ?_
  refine Rg.step 79 F_Mo_last_78 rfl (fun _ => rfl) ?_
  refine Rg.step 80 F_Mo_last_79 rfl (fun _ => rfl) ?_
  refine Rg.mulI 81 F_Mo_last_80 rfl ?_
  refine Rg.step 82 F_Mo_last_81 rfl (fun _ => rfl) ?_
  refine Rg.addI 83 F_Mo_last_82 rfl ?_
  refine Rg.step 84 F_Mo_last_83 rfl (fun _ => rfl) ?_
  refine Rg.getf 87 F_Mo_last_84 rfl rF_26_7 (gM hp) rfl ?_
  refine Rg.lst 88 F_Mo_last_87 rfl (gR_lastD hp) (by decide) (sR_lastD hp) (by omega) (by decide) ?_
  exact Rg.retV F_Mo_last_88 rfl rfl
theorem c_Mo_last1 {d : Nat}  (hp : pre.length = 168) {a which n : Int} (wA : 0 ≤ actions ∧ actions ≤ 12) (b_0 : -2147483648 ≤ a ∧ a < 2147483648) (b_1 : -2147483648 ≤ which ∧ which < 2147483648) (b_2 : -2147483648 ≤ n ∧ n < 2147483648) (h1 : ¬ (0 ≤ a ∧ a ≤ actions - 1) ∨ ¬ (-2 ≤ n ∧ n ≤ 7)) : Cg false (d + 2) m_Mo_last [.ref 168, .int (iI a), .int (iI which), .int (iI n)] (MR pre code amountN amountD momentN momentD epsilonN epsilonD firstFacts firstN firstD wishes wants wantN wantD actions needs needTime needOf needHow needN needD changes changeTime changeOf changeHow changeN changeD lastOf lastN lastD steps stepAction startN startD lengthN lengthD rows row tried triedAction triedRows triedRow times unit facts numN numD oldFacts oldN oldD point judged fault faultPoint toldFacts toldN toldD outN outD pointN pointD gone now leastN leastD greatestN greatestD events post) (.inl none) (MR pre 1 amountN amountD momentN momentD epsilonN epsilonD firstFacts firstN firstD wishes wants wantN wantD actions needs needTime needOf needHow needN needD changes changeTime changeOf changeHow changeN changeD lastOf lastN lastD steps stepAction startN startD lengthN lengthD rows row tried triedAction triedRows triedRow times unit facts numN numD oldFacts oldN oldD point judged fault faultPoint toldFacts toldN toldD outN outD pointN pointD gone now leastN leastD greatestN greatestD events post) := by
  refine Cg.of (Nat.le_of_ble_eq_true rfl) ?_
  change Rg _ _ _ _ 0 [(0, .ref 168), (1, .int (iI a)), (2, .int (iI which)), (3, .int (iI n))] [] _ _ _
  refine Rg.step 1 F_Mo_last_0 rfl (fun _ => rfl) ?_
  refine Rg.step 2 F_Mo_last_1 rfl (fun _ => rfl) ?_
  refine Rg.step 3 F_Mo_last_2 rfl (fun _ => rfl) ?_
  refine Rg.call 6 F_Mo_last_3 rfl (one_V rM_26_228 (by decide) (by simp) rfl rfl (gM hp) rfl) (Nat.le_of_ble_eq_true rfl) (Cg.any (c_Mo_isAction hp wA (by omega))) ?_
  refine Rg.ifeqP 20 9 F_Mo_last_6 rfl rfl (fun h6 => ?_) (fun h6 => ?_)
  · refine Rg.step 21 F_Mo_last_20 rfl (fun _ => rfl) ?_
    refine Rg.step 38 F_Mo_last_21 rfl (fun _ => rfl) ?_
    refine Rg.put 41 F_Mo_last_38 rfl rF_26_178 (gM hp) (by decide) (Nat.le_of_ble_eq_true rfl) (Or.inl rfl) rfl (sM_code hp) ?_
    refine Rg.step 42 F_Mo_last_41 rfl (fun _ => rfl) ?_
    refine Rg.getf 45 F_Mo_last_42 rfl rF_26_178 (gM hp) rfl ?_
    refine Rg.ifle 49 48 F_Mo_last_45 rfl rfl (fun h45 => absurd h45 (by decide)) (fun _ => ?_)
    exact Rg.retV F_Mo_last_48 rfl rfl
  · refine Rg.step 10 F_Mo_last_9 rfl (fun _ => rfl) ?_
    refine Rg.bip 12 F_Mo_last_10 rfl rfl ?_
    refine Rg.bip 14 F_Mo_last_12 rfl rfl ?_
    refine Rg.call 17 F_Mo_last_14 rfl (one_S (by decide +kernel) rM_26_200 (by decide) (by simp) rfl rfl) (Nat.le_of_ble_eq_true rfl) (Cg.any (c_Mo_in (by omega) (by omega) (by omega))) ?_
    refine Rg.ifneP 24 20 F_Mo_last_17 rfl rfl (fun h17 => by omega) (fun _ => ?_)
    refine Rg.step 21 F_Mo_last_20 rfl (fun _ => rfl) ?_
    refine Rg.step 38 F_Mo_last_21 rfl (fun _ => rfl) ?_
    refine Rg.put 41 F_Mo_last_38 rfl rF_26_178 (gM hp) (by decide) (Nat.le_of_ble_eq_true rfl) (Or.inl rfl) rfl (sM_code hp) ?_
    refine Rg.step 42 F_Mo_last_41 rfl (fun _ => rfl) ?_
    refine Rg.getf 45 F_Mo_last_42 rfl rF_26_178 (gM hp) rfl ?_
    refine Rg.ifle 49 48 F_Mo_last_45 rfl rfl (fun h45 => absurd h45 (by decide)) (fun _ => ?_)
    exact Rg.retV F_Mo_last_48 rfl rfl
theorem c_Mo_last2 {d : Nat}  (hp : pre.length = 168) {a which n : Int} (wA : 0 ≤ actions ∧ actions ≤ 12) (b_0 : -2147483648 ≤ a ∧ a < 2147483648) (b_1 : -2147483648 ≤ which ∧ which < 2147483648) (b_2 : -2147483648 ≤ n ∧ n < 2147483648) (h1 : 0 ≤ a ∧ a ≤ actions - 1) (h2 : -2 ≤ n ∧ n ≤ 7) (h3 : ¬ (0 ≤ which ∧ which ≤ 1)) : Cg false (d + 2) m_Mo_last [.ref 168, .int (iI a), .int (iI which), .int (iI n)] (MR pre code amountN amountD momentN momentD epsilonN epsilonD firstFacts firstN firstD wishes wants wantN wantD actions needs needTime needOf needHow needN needD changes changeTime changeOf changeHow changeN changeD lastOf lastN lastD steps stepAction startN startD lengthN lengthD rows row tried triedAction triedRows triedRow times unit facts numN numD oldFacts oldN oldD point judged fault faultPoint toldFacts toldN toldD outN outD pointN pointD gone now leastN leastD greatestN greatestD events post) (.inl none) (MR pre 2 amountN amountD momentN momentD epsilonN epsilonD firstFacts firstN firstD wishes wants wantN wantD actions needs needTime needOf needHow needN needD changes changeTime changeOf changeHow changeN changeD lastOf lastN lastD steps stepAction startN startD lengthN lengthD rows row tried triedAction triedRows triedRow times unit facts numN numD oldFacts oldN oldD point judged fault faultPoint toldFacts toldN toldD outN outD pointN pointD gone now leastN leastD greatestN greatestD events post) := by
  refine Cg.of (Nat.le_of_ble_eq_true rfl) ?_
  change Rg _ _ _ _ 0 [(0, .ref 168), (1, .int (iI a)), (2, .int (iI which)), (3, .int (iI n))] [] _ _ _
  refine Rg.step 1 F_Mo_last_0 rfl (fun _ => rfl) ?_
  refine Rg.step 2 F_Mo_last_1 rfl (fun _ => rfl) ?_
  refine Rg.step 3 F_Mo_last_2 rfl (fun _ => rfl) ?_
  refine Rg.call 6 F_Mo_last_3 rfl (one_V rM_26_228 (by decide) (by simp) rfl rfl (gM hp) rfl) (Nat.le_of_ble_eq_true rfl) (Cg.any (c_Mo_isAction hp wA (by omega))) ?_
  refine Rg.ifeqP 20 9 F_Mo_last_6 rfl rfl (fun h6 => by omega) (fun _ => ?_)
  refine Rg.step 10 F_Mo_last_9 rfl (fun _ => rfl) ?_
  refine Rg.bip 12 F_Mo_last_10 rfl rfl ?_
  refine Rg.bip 14 F_Mo_last_12 rfl rfl ?_
  refine Rg.call 17 F_Mo_last_14 rfl (one_S (by decide +kernel) rM_26_200 (by decide) (by simp) rfl rfl) (Nat.le_of_ble_eq_true rfl) (Cg.any (c_Mo_in (by omega) (by omega) (by omega))) ?_
  refine Rg.ifneP 24 20 F_Mo_last_17 rfl rfl (fun _ => ?_) (fun h17 => by omega)
  refine Rg.step 25 F_Mo_last_24 rfl (fun _ => rfl) ?_
  refine Rg.step 26 F_Mo_last_25 rfl (fun _ => rfl) ?_
  refine Rg.step 27 F_Mo_last_26 rfl (fun _ => rfl) ?_
  refine Rg.call 30 F_Mo_last_27 rfl (one_S (by decide +kernel) rM_26_200 (by decide) (by simp) rfl rfl) (Nat.le_of_ble_eq_true rfl) (Cg.any (c_Mo_in (by omega) (by omega) (by omega))) ?_
  refine Rg.ifneP 37 33 F_Mo_last_30 rfl rfl (fun h30 => by omega) (fun _ => ?_)
  refine Rg.step 34 F_Mo_last_33 rfl (fun _ => rfl) ?_
  refine Rg.step 38 F_Mo_last_34 rfl (fun _ => rfl) ?_
  refine Rg.put 41 F_Mo_last_38 rfl rF_26_178 (gM hp) (by decide) (Nat.le_of_ble_eq_true rfl) (Or.inl rfl) rfl (sM_code hp) ?_
  refine Rg.step 42 F_Mo_last_41 rfl (fun _ => rfl) ?_
  refine Rg.getf 45 F_Mo_last_42 rfl rF_26_178 (gM hp) rfl ?_
  refine Rg.ifle 49 48 F_Mo_last_45 rfl rfl (fun h45 => absurd h45 (by decide)) (fun _ => ?_)
  exact Rg.retV F_Mo_last_48 rfl rfl
theorem c_Mo_step {d : Nat}  (hp : pre.length = 168) {a : Int} (wA : 0 ≤ actions ∧ actions ≤ 12) (wS : 0 ≤ steps ∧ steps ≤ 12) (b_0 : -2147483648 ≤ a ∧ a < 2147483648) (d_0 : -4611686018427387904 < amountN ∧ amountN < 4611686018427387904) (d_1 : -4611686018427387904 < momentN ∧ momentN < 4611686018427387904) (h1 : 0 ≤ a ∧ a ≤ actions - 1) (h2 : 0 ≤ momentN ∧ 0 < amountN) (h3 : ¬ steps = 12) : Cg false (d + 2) m_Mo_step [.ref 168, .int (iI a)] (MR pre code amountN amountD momentN momentD epsilonN epsilonD firstFacts firstN firstD wishes wants wantN wantD actions needs needTime needOf needHow needN needD changes changeTime changeOf changeHow changeN changeD lastOf lastN lastD steps stepAction startN startD lengthN lengthD rows row tried triedAction triedRows triedRow times unit facts numN numD oldFacts oldN oldD point judged fault faultPoint toldFacts toldN toldD outN outD pointN pointD gone now leastN leastD greatestN greatestD events post) (.inl (some (.int (iI steps)))) (MR pre 0 amountN amountD momentN momentD epsilonN epsilonD firstFacts firstN firstD wishes wants wantN wantD actions needs needTime needOf needHow needN needD changes changeTime changeOf changeHow changeN changeD lastOf lastN lastD (steps + 1) (up1 stepAction steps a) (up1 startN steps momentN) (up1 startD steps momentD) (up1 lengthN steps amountN) (up1 lengthD steps amountD) rows row tried triedAction triedRows triedRow times unit facts numN numD oldFacts oldN oldD point judged fault faultPoint toldFacts toldN toldD outN outD pointN pointD gone now leastN leastD greatestN greatestD events post) := by
  refine Cg.of (Nat.le_of_ble_eq_true rfl) ?_
  change Rg _ _ _ _ 0 [(0, .ref 168), (1, .int (iI a))] [] _ _ _
  refine Rg.step 1 F_Mo_step_0 rfl (fun _ => rfl) ?_
  refine Rg.step 2 F_Mo_step_1 rfl (fun _ => rfl) ?_
  refine Rg.step 3 F_Mo_step_2 rfl (fun _ => rfl) ?_
  refine Rg.call 6 F_Mo_step_3 rfl (one_V rM_26_228 (by decide) (by simp) rfl rfl (gM hp) rfl) (Nat.le_of_ble_eq_true rfl) (Cg.any (c_Mo_isAction hp wA (by omega))) ?_
  refine Rg.ifneP 13 9 F_Mo_step_6 rfl rfl (fun _ => ?_) (fun h6 => by omega)
  refine Rg.step 14 F_Mo_step_13 rfl (fun _ => rfl) ?_
  refine Rg.getf 17 F_Mo_step_14 rfl rF_26_215 (gM hp) rfl ?_
  refine Rg.lcn (n := 0) 18 F_Mo_step_17 rfl rfl ?_
  refine Rg.lclt 31 22 F_Mo_step_18 F_Mo_step_19 rfl rfl (by omega) (by omega) (fun h18 => by omega) (fun _ => ?_)
  refine Rg.step 23 F_Mo_step_22 rfl (fun _ => rfl) ?_
  refine Rg.getf 26 F_Mo_step_23 rfl rF_26_212 (gM hp) rfl ?_
  refine Rg.lcn (n := 0) 27 F_Mo_step_26 rfl rfl ?_
  refine Rg.lcgt 35 31 F_Mo_step_27 F_Mo_step_28 rfl rfl (by omega) (by omega) (fun _ => ?_) (fun h27 => by omega)
  refine Rg.step 36 F_Mo_step_35 rfl (fun _ => rfl) ?_
  refine Rg.getf 39 F_Mo_step_36 rfl rF_26_242 (gM hp) rfl ?_
  refine Rg.bip 41 F_Mo_step_39 rfl rfl ?_
  refine Rg.icneI 48 44 F_Mo_step_41 rfl rfl (by omega) (by omega) (fun _ => ?_) (fun h41 => by omega)
  refine Rg.step 49 F_Mo_step_48 rfl (fun _ => rfl) ?_
  refine Rg.put 52 F_Mo_step_49 rfl rF_26_178 (gM hp) (by decide) (Nat.le_of_ble_eq_true rfl) (Or.inl rfl) rfl (sM_code hp) ?_
  refine Rg.step 53 F_Mo_step_52 rfl (fun _ => rfl) ?_
  refine Rg.getf 56 F_Mo_step_53 rfl rF_26_178 (gM hp) rfl ?_
  refine Rg.ifle 61 59 F_Mo_step_56 rfl rfl (fun _ => ?_) (fun h56 => absurd h56 (by decide))
  refine Rg.step 62 F_Mo_step_61 rfl (fun _ => rfl) ?_
  refine Rg.getf 65 F_Mo_step_62 rfl rF_26_93 (gM hp) rfl ?_
  refine Rg.step 66 F_Mo_step_65 rfl (fun _ => rfl) ?_
  refine Rg.getf 69 F_Mo_step_66 rfl rF_26_242 (gM hp) rfl ?_
  refine Rg.step 70 F_Mo_step_69 rfl (fun _ => rfl) ?_
  refine Rg.ist 71 F_Mo_step_70 rfl (gR_stepAction hp) (by decide) (sR_stepAction hp) (by omega) (by decide) ?_
  refine Rg.step 72 F_Mo_step_71 rfl (fun _ => rfl) ?_
  refine Rg.getf 75 F_Mo_step_72 rfl rF_26_96 (gM hp) rfl ?_
  refine Rg.step 76 F_Mo_step_75 rfl (fun _ => rfl) ?_
  refine Rg.getf 79 F_Mo_step_76 rfl rF_26_242 (gM hp) rfl ?_
  refine Rg.step 80 F_Mo_step_79 rfl (fun _ => rfl) ?_
  refine Rg.getf 83 F_Mo_step_80 rfl rF_26_215 (gM hp) rfl ?_
  refine Rg.lst 84 F_Mo_step_83 rfl (gR_startN hp) (by decide) (sR_startN hp) (by omega) (by decide) ?_
  refine Rg.step 85 F_Mo_step_84 rfl (fun _ => rfl) ?_
  refine Rg.getf 88 F_Mo_step_85 rfl rF_26_99 (gM hp) rfl ?_
  refine Rg.step 89 F_Mo_step_88 rfl (fun _ => rfl) ?_
  refine Rg.getf 92 F_Mo_step_89 rfl rF_26_242 (gM hp) rfl ?_
  refine Rg.step 93 F_Mo_step_92 rfl (fun _ => rfl) ?_
  refine Rg.getf 96 F_Mo_step_93 rfl rF_26_13 (gM hp) rfl ?_
  refine Rg.lst 97 F_Mo_step_96 rfl (gR_startD hp) (by decide) (sR_startD hp) (by omega) (by decide) ?_
  refine Rg.step 98 F_Mo_step_97 rfl (fun _ => rfl) ?_
  refine Rg.getf 101 F_Mo_step_98 rfl rF_26_102 (gM hp) rfl ?_
  refine Rg.step 102 F_Mo_step_101 rfl (fun _ => rfl) ?_
  refine Rg.getf 105 F_Mo_step_102 rfl rF_26_242 (gM hp) rfl ?_
  refine Rg.step 106 F_Mo_step_105 rfl (fun _ => rfl) ?_
  refine Rg.getf 109 F_Mo_step_106 rfl rF_26_212 (gM hp) rfl ?_
  refine Rg.lst 110 F_Mo_step_109 rfl (gR_lengthN hp) (by decide) (sR_lengthN hp) (by omega) (by decide) ?_
  refine Rg.step 111 F_Mo_step_110 rfl (fun _ => rfl) ?_
  refine Rg.getf 114 F_Mo_step_111 rfl rF_26_105 (gM hp) rfl ?_
  refine Rg.step 115 F_Mo_step_114 rfl (fun _ => rfl) ?_
  refine Rg.getf 118 F_Mo_step_115 rfl rF_26_242 (gM hp) rfl ?_
  refine Rg.step 119 F_Mo_step_118 rfl (fun _ => rfl) ?_
  refine Rg.getf 122 F_Mo_step_119 rfl rF_26_7 (gM hp) rfl ?_
  refine Rg.lst 123 F_Mo_step_122 rfl (gR_lengthD hp) (by decide) (sR_lengthD hp) (by omega) (by decide) ?_
  refine Rg.step 124 F_Mo_step_123 rfl (fun _ => rfl) ?_
  refine Rg.step 125 F_Mo_step_124 rfl (fun _ => rfl) ?_
  refine Rg.getf 128 F_Mo_step_125 rfl rF_26_242 (gM hp) rfl ?_
  refine Rg.step 129 F_Mo_step_128 rfl (fun _ => rfl) ?_
  refine Rg.addI 130 F_Mo_step_129 rfl ?_
  refine Rg.put 133 F_Mo_step_130 rfl rF_26_242 (gM hp) (by decide) (Nat.le_of_ble_eq_true rfl) (Or.inl rfl) rfl (sM_steps hp) ?_
  refine Rg.step 134 F_Mo_step_133 rfl (fun _ => rfl) ?_
  refine Rg.getf 137 F_Mo_step_134 rfl rF_26_242 (gM hp) rfl ?_
  refine Rg.step 138 F_Mo_step_137 rfl (fun _ => rfl) ?_
  refine Rg.subI 139 F_Mo_step_138 rfl ?_
  exact Rg.retI F_Mo_step_139 rfl (by omega) rfl
theorem c_Mo_step1 {d : Nat}  (hp : pre.length = 168) {a : Int} (wA : 0 ≤ actions ∧ actions ≤ 12) (wS : 0 ≤ steps ∧ steps ≤ 12) (b_0 : -2147483648 ≤ a ∧ a < 2147483648) (d_0 : -4611686018427387904 < amountN ∧ amountN < 4611686018427387904) (d_1 : -4611686018427387904 < momentN ∧ momentN < 4611686018427387904) (h1 : ¬ (0 ≤ a ∧ a ≤ actions - 1)) : Cg false (d + 2) m_Mo_step [.ref 168, .int (iI a)] (MR pre code amountN amountD momentN momentD epsilonN epsilonD firstFacts firstN firstD wishes wants wantN wantD actions needs needTime needOf needHow needN needD changes changeTime changeOf changeHow changeN changeD lastOf lastN lastD steps stepAction startN startD lengthN lengthD rows row tried triedAction triedRows triedRow times unit facts numN numD oldFacts oldN oldD point judged fault faultPoint toldFacts toldN toldD outN outD pointN pointD gone now leastN leastD greatestN greatestD events post) (.inl (some (.int (iI 0)))) (MR pre 1 amountN amountD momentN momentD epsilonN epsilonD firstFacts firstN firstD wishes wants wantN wantD actions needs needTime needOf needHow needN needD changes changeTime changeOf changeHow changeN changeD lastOf lastN lastD steps stepAction startN startD lengthN lengthD rows row tried triedAction triedRows triedRow times unit facts numN numD oldFacts oldN oldD point judged fault faultPoint toldFacts toldN toldD outN outD pointN pointD gone now leastN leastD greatestN greatestD events post) := by
  refine Cg.of (Nat.le_of_ble_eq_true rfl) ?_
  change Rg _ _ _ _ 0 [(0, .ref 168), (1, .int (iI a))] [] _ _ _
  refine Rg.step 1 F_Mo_step_0 rfl (fun _ => rfl) ?_
  refine Rg.step 2 F_Mo_step_1 rfl (fun _ => rfl) ?_
  refine Rg.step 3 F_Mo_step_2 rfl (fun _ => rfl) ?_
  refine Rg.call 6 F_Mo_step_3 rfl (one_V rM_26_228 (by decide) (by simp) rfl rfl (gM hp) rfl) (Nat.le_of_ble_eq_true rfl) (Cg.any (c_Mo_isAction hp wA (by omega))) ?_
  refine Rg.ifneP 13 9 F_Mo_step_6 rfl rfl (fun h6 => by omega) (fun _ => ?_)
  refine Rg.step 10 F_Mo_step_9 rfl (fun _ => rfl) ?_
  refine Rg.step 49 F_Mo_step_10 rfl (fun _ => rfl) ?_
  refine Rg.put 52 F_Mo_step_49 rfl rF_26_178 (gM hp) (by decide) (Nat.le_of_ble_eq_true rfl) (Or.inl rfl) rfl (sM_code hp) ?_
  refine Rg.step 53 F_Mo_step_52 rfl (fun _ => rfl) ?_
  refine Rg.getf 56 F_Mo_step_53 rfl rF_26_178 (gM hp) rfl ?_
  refine Rg.ifle 61 59 F_Mo_step_56 rfl rfl (fun h56 => absurd h56 (by decide)) (fun _ => ?_)
  refine Rg.step 60 F_Mo_step_59 rfl (fun _ => rfl) ?_
  exact Rg.retI F_Mo_step_60 rfl rfl rfl
theorem c_Mo_step2 {d : Nat}  (hp : pre.length = 168) {a : Int} (wA : 0 ≤ actions ∧ actions ≤ 12) (wS : 0 ≤ steps ∧ steps ≤ 12) (b_0 : -2147483648 ≤ a ∧ a < 2147483648) (d_0 : -4611686018427387904 < amountN ∧ amountN < 4611686018427387904) (d_1 : -4611686018427387904 < momentN ∧ momentN < 4611686018427387904) (h1 : 0 ≤ a ∧ a ≤ actions - 1) (h2 : ¬ (0 ≤ momentN ∧ 0 < amountN)) : Cg false (d + 2) m_Mo_step [.ref 168, .int (iI a)] (MR pre code amountN amountD momentN momentD epsilonN epsilonD firstFacts firstN firstD wishes wants wantN wantD actions needs needTime needOf needHow needN needD changes changeTime changeOf changeHow changeN changeD lastOf lastN lastD steps stepAction startN startD lengthN lengthD rows row tried triedAction triedRows triedRow times unit facts numN numD oldFacts oldN oldD point judged fault faultPoint toldFacts toldN toldD outN outD pointN pointD gone now leastN leastD greatestN greatestD events post) (.inl (some (.int (iI 0)))) (MR pre 2 amountN amountD momentN momentD epsilonN epsilonD firstFacts firstN firstD wishes wants wantN wantD actions needs needTime needOf needHow needN needD changes changeTime changeOf changeHow changeN changeD lastOf lastN lastD steps stepAction startN startD lengthN lengthD rows row tried triedAction triedRows triedRow times unit facts numN numD oldFacts oldN oldD point judged fault faultPoint toldFacts toldN toldD outN outD pointN pointD gone now leastN leastD greatestN greatestD events post) := by
  refine Cg.of (Nat.le_of_ble_eq_true rfl) ?_
  change Rg _ _ _ _ 0 [(0, .ref 168), (1, .int (iI a))] [] _ _ _
  refine Rg.step 1 F_Mo_step_0 rfl (fun _ => rfl) ?_
  refine Rg.step 2 F_Mo_step_1 rfl (fun _ => rfl) ?_
  refine Rg.step 3 F_Mo_step_2 rfl (fun _ => rfl) ?_
  refine Rg.call 6 F_Mo_step_3 rfl (one_V rM_26_228 (by decide) (by simp) rfl rfl (gM hp) rfl) (Nat.le_of_ble_eq_true rfl) (Cg.any (c_Mo_isAction hp wA (by omega))) ?_
  refine Rg.ifneP 13 9 F_Mo_step_6 rfl rfl (fun _ => ?_) (fun h6 => by omega)
  refine Rg.step 14 F_Mo_step_13 rfl (fun _ => rfl) ?_
  refine Rg.getf 17 F_Mo_step_14 rfl rF_26_215 (gM hp) rfl ?_
  refine Rg.lcn (n := 0) 18 F_Mo_step_17 rfl rfl ?_
  refine Rg.lclt 31 22 F_Mo_step_18 F_Mo_step_19 rfl rfl (by omega) (by omega) (fun h18 => ?_) (fun h18 => ?_)
  · refine Rg.step 32 F_Mo_step_31 rfl (fun _ => rfl) ?_
    refine Rg.step 49 F_Mo_step_32 rfl (fun _ => rfl) ?_
    refine Rg.put 52 F_Mo_step_49 rfl rF_26_178 (gM hp) (by decide) (Nat.le_of_ble_eq_true rfl) (Or.inl rfl) rfl (sM_code hp) ?_
    refine Rg.step 53 F_Mo_step_52 rfl (fun _ => rfl) ?_
    refine Rg.getf 56 F_Mo_step_53 rfl rF_26_178 (gM hp) rfl ?_
    refine Rg.ifle 61 59 F_Mo_step_56 rfl rfl (fun h56 => absurd h56 (by decide)) (fun _ => ?_)
    refine Rg.step 60 F_Mo_step_59 rfl (fun _ => rfl) ?_
    exact Rg.retI F_Mo_step_60 rfl rfl rfl
  · refine Rg.step 23 F_Mo_step_22 rfl (fun _ => rfl) ?_
    refine Rg.getf 26 F_Mo_step_23 rfl rF_26_212 (gM hp) rfl ?_
    refine Rg.lcn (n := 0) 27 F_Mo_step_26 rfl rfl ?_
    refine Rg.lcgt 35 31 F_Mo_step_27 F_Mo_step_28 rfl rfl (by omega) (by omega) (fun h27 => by omega) (fun _ => ?_)
    refine Rg.step 32 F_Mo_step_31 rfl (fun _ => rfl) ?_
    refine Rg.step 49 F_Mo_step_32 rfl (fun _ => rfl) ?_
    refine Rg.put 52 F_Mo_step_49 rfl rF_26_178 (gM hp) (by decide) (Nat.le_of_ble_eq_true rfl) (Or.inl rfl) rfl (sM_code hp) ?_
    refine Rg.step 53 F_Mo_step_52 rfl (fun _ => rfl) ?_
    refine Rg.getf 56 F_Mo_step_53 rfl rF_26_178 (gM hp) rfl ?_
    refine Rg.ifle 61 59 F_Mo_step_56 rfl rfl (fun h56 => absurd h56 (by decide)) (fun _ => ?_)
    refine Rg.step 60 F_Mo_step_59 rfl (fun _ => rfl) ?_
    exact Rg.retI F_Mo_step_60 rfl rfl rfl
theorem c_Mo_step3 {d : Nat}  (hp : pre.length = 168) {a : Int} (wA : 0 ≤ actions ∧ actions ≤ 12) (wS : 0 ≤ steps ∧ steps ≤ 12) (b_0 : -2147483648 ≤ a ∧ a < 2147483648) (d_0 : -4611686018427387904 < amountN ∧ amountN < 4611686018427387904) (d_1 : -4611686018427387904 < momentN ∧ momentN < 4611686018427387904) (h1 : 0 ≤ a ∧ a ≤ actions - 1) (h2 : 0 ≤ momentN ∧ 0 < amountN) (h3 : steps = 12) : Cg false (d + 2) m_Mo_step [.ref 168, .int (iI a)] (MR pre code amountN amountD momentN momentD epsilonN epsilonD firstFacts firstN firstD wishes wants wantN wantD actions needs needTime needOf needHow needN needD changes changeTime changeOf changeHow changeN changeD lastOf lastN lastD steps stepAction startN startD lengthN lengthD rows row tried triedAction triedRows triedRow times unit facts numN numD oldFacts oldN oldD point judged fault faultPoint toldFacts toldN toldD outN outD pointN pointD gone now leastN leastD greatestN greatestD events post) (.inl (some (.int (iI 0)))) (MR pre 3 amountN amountD momentN momentD epsilonN epsilonD firstFacts firstN firstD wishes wants wantN wantD actions needs needTime needOf needHow needN needD changes changeTime changeOf changeHow changeN changeD lastOf lastN lastD steps stepAction startN startD lengthN lengthD rows row tried triedAction triedRows triedRow times unit facts numN numD oldFacts oldN oldD point judged fault faultPoint toldFacts toldN toldD outN outD pointN pointD gone now leastN leastD greatestN greatestD events post) := by
  refine Cg.of (Nat.le_of_ble_eq_true rfl) ?_
  change Rg _ _ _ _ 0 [(0, .ref 168), (1, .int (iI a))] [] _ _ _
  refine Rg.step 1 F_Mo_step_0 rfl (fun _ => rfl) ?_
  refine Rg.step 2 F_Mo_step_1 rfl (fun _ => rfl) ?_
  refine Rg.step 3 F_Mo_step_2 rfl (fun _ => rfl) ?_
  refine Rg.call 6 F_Mo_step_3 rfl (one_V rM_26_228 (by decide) (by simp) rfl rfl (gM hp) rfl) (Nat.le_of_ble_eq_true rfl) (Cg.any (c_Mo_isAction hp wA (by omega))) ?_
  refine Rg.ifneP 13 9 F_Mo_step_6 rfl rfl (fun _ => ?_) (fun h6 => by omega)
  refine Rg.step 14 F_Mo_step_13 rfl (fun _ => rfl) ?_
  refine Rg.getf 17 F_Mo_step_14 rfl rF_26_215 (gM hp) rfl ?_
  refine Rg.lcn (n := 0) 18 F_Mo_step_17 rfl rfl ?_
  refine Rg.lclt 31 22 F_Mo_step_18 F_Mo_step_19 rfl rfl (by omega) (by omega) (fun h18 => by omega) (fun _ => ?_)
  refine Rg.step 23 F_Mo_step_22 rfl (fun _ => rfl) ?_
  refine Rg.getf 26 F_Mo_step_23 rfl rF_26_212 (gM hp) rfl ?_
  refine Rg.lcn (n := 0) 27 F_Mo_step_26 rfl rfl ?_
  refine Rg.lcgt 35 31 F_Mo_step_27 F_Mo_step_28 rfl rfl (by omega) (by omega) (fun _ => ?_) (fun h27 => by omega)
  refine Rg.step 36 F_Mo_step_35 rfl (fun _ => rfl) ?_
  refine Rg.getf 39 F_Mo_step_36 rfl rF_26_242 (gM hp) rfl ?_
  refine Rg.bip 41 F_Mo_step_39 rfl rfl ?_
  refine Rg.icneI 48 44 F_Mo_step_41 rfl rfl (by omega) (by omega) (fun h41 => by omega) (fun _ => ?_)
  refine Rg.step 45 F_Mo_step_44 rfl (fun _ => rfl) ?_
  refine Rg.step 49 F_Mo_step_45 rfl (fun _ => rfl) ?_
  refine Rg.put 52 F_Mo_step_49 rfl rF_26_178 (gM hp) (by decide) (Nat.le_of_ble_eq_true rfl) (Or.inl rfl) rfl (sM_code hp) ?_
  refine Rg.step 53 F_Mo_step_52 rfl (fun _ => rfl) ?_
  refine Rg.getf 56 F_Mo_step_53 rfl rF_26_178 (gM hp) rfl ?_
  refine Rg.ifle 61 59 F_Mo_step_56 rfl rfl (fun h56 => absurd h56 (by decide)) (fun _ => ?_)
  refine Rg.step 60 F_Mo_step_59 rfl (fun _ => rfl) ?_
  exact Rg.retI F_Mo_step_60 rfl rfl rfl
theorem c_Mo_clear {d : Nat}  (hp : pre.length = 168) : Cg false d m_Mo_clear [.ref 168] (MR pre code amountN amountD momentN momentD epsilonN epsilonD firstFacts firstN firstD wishes wants wantN wantD actions needs needTime needOf needHow needN needD changes changeTime changeOf changeHow changeN changeD lastOf lastN lastD steps stepAction startN startD lengthN lengthD rows row tried triedAction triedRows triedRow times unit facts numN numD oldFacts oldN oldD point judged fault faultPoint toldFacts toldN toldD outN outD pointN pointD gone now leastN leastD greatestN greatestD events post) (.inl none) (MR pre 0 amountN amountD momentN momentD epsilonN epsilonD firstFacts firstN firstD wishes wants wantN wantD actions needs needTime needOf needHow needN needD changes changeTime changeOf changeHow changeN changeD lastOf lastN lastD 0 stepAction startN startD lengthN lengthD 0 row tried triedAction triedRows triedRow times unit facts numN numD oldFacts oldN oldD point judged fault faultPoint toldFacts toldN toldD outN outD pointN pointD gone now leastN leastD greatestN greatestD events post) := by
  refine Cg.of (Nat.le_of_ble_eq_true rfl) ?_
  change Rg _ _ _ _ 0 [(0, .ref 168)] [] _ _ _
  refine Rg.step 1 F_Mo_clear_0 rfl (fun _ => rfl) ?_
  refine Rg.step 2 F_Mo_clear_1 rfl (fun _ => rfl) ?_
  refine Rg.put 5 F_Mo_clear_2 rfl rF_26_178 (gM hp) (by decide) (Nat.le_of_ble_eq_true rfl) (Or.inl rfl) rfl (sM_code hp) ?_
  refine Rg.step 6 F_Mo_clear_5 rfl (fun _ => rfl) ?_
  refine Rg.step 7 F_Mo_clear_6 rfl (fun _ => rfl) ?_
  refine Rg.put 10 F_Mo_clear_7 rfl rF_26_242 (gM hp) (by decide) (Nat.le_of_ble_eq_true rfl) (Or.inl rfl) rfl (sM_steps hp) ?_
  refine Rg.step 11 F_Mo_clear_10 rfl (fun _ => rfl) ?_
  refine Rg.step 12 F_Mo_clear_11 rfl (fun _ => rfl) ?_
  refine Rg.put 15 F_Mo_clear_12 rfl rF_26_245 (gM hp) (by decide) (Nat.le_of_ble_eq_true rfl) (Or.inl rfl) rfl (sM_rows hp) ?_
  exact Rg.retV F_Mo_clear_15 rfl rfl
theorem c_Mo_thrown {d : Nat}  (hp : pre.length = 168) : Cg true d m_Mo_thrown [.ref 168] (MR pre code amountN amountD momentN momentD epsilonN epsilonD firstFacts firstN firstD wishes wants wantN wantD actions needs needTime needOf needHow needN needD changes changeTime changeOf changeHow changeN changeD lastOf lastN lastD steps stepAction startN startD lengthN lengthD rows row tried triedAction triedRows triedRow times unit facts numN numD oldFacts oldN oldD point judged fault faultPoint toldFacts toldN toldD outN outD pointN pointD gone now leastN leastD greatestN greatestD events post) (.inl (some (.int (iI code)))) (MR pre code amountN amountD momentN momentD epsilonN epsilonD firstFacts firstN firstD wishes wants wantN wantD actions needs needTime needOf needHow needN needD changes changeTime changeOf changeHow changeN changeD lastOf lastN lastD steps stepAction startN startD lengthN lengthD rows row tried triedAction triedRows triedRow times unit facts numN numD oldFacts oldN oldD point judged fault faultPoint toldFacts toldN toldD outN outD pointN pointD gone now leastN leastD greatestN greatestD events post) := by
  refine Cg.of (Nat.le_of_ble_eq_true rfl) ?_
  change Rg _ _ _ _ 0 [(0, .ref 168)] [] _ _ _
  refine Rg.step 1 F_Mo_thrown_0 rfl (fun _ => rfl) ?_
  refine Rg.getf 4 F_Mo_thrown_1 rfl rF_26_178 (gM hp) rfl ?_
  exact Rg.retI F_Mo_thrown_4 rfl rfl rfl
theorem inrow_loop {d n0 : Nat} (hp : pre.length = 168) {p : Int} (wR : 0 ≤ rows ∧ rows ≤ 24) (wr : ∀ k, 0 ≤ row k ∧ row k ≤ 23) (b1 : -2147483648 ≤ p ∧ p < 2147483648) : ∀ (n : Nat) (k : Int), k + n = rows → 0 ≤ k → Rg true d m_Mo_isInRow n0 2 [(2, .int (iI k)), (0, .ref 168), (1, .int (iI p))] [] (MR pre code amountN amountD momentN momentD epsilonN epsilonD firstFacts firstN firstD wishes wants wantN wantD actions needs needTime needOf needHow needN needD changes changeTime changeOf changeHow changeN changeD lastOf lastN lastD steps stepAction startN startD lengthN lengthD rows row tried triedAction triedRows triedRow times unit facts numN numD oldFacts oldN oldD point judged fault faultPoint toldFacts toldN toldD outN outD pointN pointD gone now leastN leastD greatestN greatestD events post) (.inl (some (.int (bP (∃ j, k ≤ j ∧ j < rows ∧ row j = p))))) (MR pre code amountN amountD momentN momentD epsilonN epsilonD firstFacts firstN firstD wishes wants wantN wantD actions needs needTime needOf needHow needN needD changes changeTime changeOf changeHow changeN changeD lastOf lastN lastD steps stepAction startN startD lengthN lengthD rows row tried triedAction triedRows triedRow times unit facts numN numD oldFacts oldN oldD point judged fault faultPoint toldFacts toldN toldD outN outD pointN pointD gone now leastN leastD greatestN greatestD events post) := by
  intro n
  induction n with
  | zero =>
    intro k hk hk2
    refine Rg.step 3 F_Mo_isInRow_2 rfl (fun _ => rfl) ?_
    refine Rg.step 4 F_Mo_isInRow_3 rfl (fun _ => rfl) ?_
    refine Rg.getf 7 F_Mo_isInRow_4 rfl rF_26_245 (gM hp) rfl ?_
    refine Rg.icgeI 28 10 F_Mo_isInRow_7 rfl rfl (by omega) (by omega) (fun _ => ?_) (fun h7 => by omega)
    refine Rg.step 29 F_Mo_isInRow_28 rfl (fun _ => rfl) ?_
    exact Rg.ret0 F_Mo_isInRow_29 rfl (fun ⟨j, z1, z2, z3⟩ => by omega) rfl
  | succ n ih =>
    intro k hk hk2
    have c1 := wr k
    refine Rg.step 3 F_Mo_isInRow_2 rfl (fun _ => rfl) ?_
    refine Rg.step 4 F_Mo_isInRow_3 rfl (fun _ => rfl) ?_
    refine Rg.getf 7 F_Mo_isInRow_4 rfl rF_26_245 (gM hp) rfl ?_
    refine Rg.icgeI 28 10 F_Mo_isInRow_7 rfl rfl (by omega) (by omega) (fun h7 => by omega) (fun _ => ?_)
    refine Rg.step 11 F_Mo_isInRow_10 rfl (fun _ => rfl) ?_
    refine Rg.getf 14 F_Mo_isInRow_11 rfl rF_26_108 (gM hp) rfl ?_
    refine Rg.step 15 F_Mo_isInRow_14 rfl (fun _ => rfl) ?_
    refine Rg.ild 16 F_Mo_isInRow_15 rfl (gR_row hp) (by omega) (by decide) ?_
    refine Rg.step 17 F_Mo_isInRow_16 rfl (fun _ => rfl) ?_
    refine Rg.icneI 22 20 F_Mo_isInRow_17 rfl rfl (by omega) (by omega) (fun h17 => ?_) (fun h17 => ?_)
    · refine Rg.inc 25 F_Mo_isInRow_22 rfl rfl (by decide) ?_
      refine Rg.step 2 F_Mo_isInRow_25 rfl (fun _ => rfl) ?_
      have e1 : (∃ j, k ≤ j ∧ j < rows ∧ row j = p) ↔ (∃ j, k + 1 ≤ j ∧ j < rows ∧ row j = p) := by
        constructor
        · rintro ⟨j, z1, z2, z3⟩
          refine ⟨j, ?_, z2, z3⟩
          have : ¬ j = k := fun z => h17 (by rw [← z]; exact z3)
          omega
        · rintro ⟨j, z1, z2, z3⟩
          exact ⟨j, by omega, z2, z3⟩
      rw [propext e1]
      exact Rg.weak (ih (k + 1) (by omega) (by omega)) (by simp [lput1, lput2, Value.category, fi0, fi1, fi2, fi3] <;> first | rfl | exact ⟨rfl, rfl⟩) (by simp [lput1, lput2, Value.category, fi0, fi1, fi2, fi3] <;> first | rfl | exact ⟨rfl, rfl⟩)
    · refine Rg.step 21 F_Mo_isInRow_20 rfl (fun _ => rfl) ?_
      exact Rg.ret1 F_Mo_isInRow_21 rfl ⟨k, by omega, by omega, h17⟩ rfl
theorem c_Mo_isInRow {d : Nat}  (hp : pre.length = 168) {p : Int} (wR : 0 ≤ rows ∧ rows ≤ 24) (wr : ∀ k, 0 ≤ row k ∧ row k ≤ 23) (b1 : -2147483648 ≤ p ∧ p < 2147483648) : Cg true d m_Mo_isInRow [.ref 168, .int (iI p)] (MR pre code amountN amountD momentN momentD epsilonN epsilonD firstFacts firstN firstD wishes wants wantN wantD actions needs needTime needOf needHow needN needD changes changeTime changeOf changeHow changeN changeD lastOf lastN lastD steps stepAction startN startD lengthN lengthD rows row tried triedAction triedRows triedRow times unit facts numN numD oldFacts oldN oldD point judged fault faultPoint toldFacts toldN toldD outN outD pointN pointD gone now leastN leastD greatestN greatestD events post) (.inl (some (.int (bP (inRow row rows p))))) (MR pre code amountN amountD momentN momentD epsilonN epsilonD firstFacts firstN firstD wishes wants wantN wantD actions needs needTime needOf needHow needN needD changes changeTime changeOf changeHow changeN changeD lastOf lastN lastD steps stepAction startN startD lengthN lengthD rows row tried triedAction triedRows triedRow times unit facts numN numD oldFacts oldN oldD point judged fault faultPoint toldFacts toldN toldD outN outD pointN pointD gone now leastN leastD greatestN greatestD events post) := by
  refine Cg.of (Nat.le_of_ble_eq_true rfl) ?_
  change Rg _ _ _ _ 0 [(0, .ref 168), (1, .int (iI p))] [] _ _ _
  refine Rg.step 1 F_Mo_isInRow_0 rfl (fun _ => rfl) ?_
  refine Rg.step 2 F_Mo_isInRow_1 rfl (fun _ => rfl) ?_
  exact Rg.weak (inrow_loop hp wR wr b1 rows.toNat 0 (by omega) (by omega)) (by simp [lput1, lput2, Value.category, fi0, fi1, fi2, fi3] <;> first | rfl | exact ⟨rfl, rfl⟩) (by simp [lput1, lput2, Value.category, fi0, fi1, fi2, fi3] <;> first | rfl | exact ⟨rfl, rfl⟩)
theorem c_Mo_push {d : Nat}  (hp : pre.length = 168) {p : Int} (wS : 0 ≤ steps ∧ steps ≤ 12) (wR : 0 ≤ rows ∧ rows ≤ 24) (wr : ∀ k, 0 ≤ row k ∧ row k ≤ 23) (b_0 : -2147483648 ≤ p ∧ p < 2147483648) (h1 : 0 ≤ p ∧ p ≤ 2 * steps - 1) (h2 : ¬ inRow row rows p) (h3 : p % 2 = 1 → inRow row rows (p - 1)) (h4 : rows < 24) : Cg false (d + 1) m_Mo_push [.ref 168, .int (iI p)] (MR pre code amountN amountD momentN momentD epsilonN epsilonD firstFacts firstN firstD wishes wants wantN wantD actions needs needTime needOf needHow needN needD changes changeTime changeOf changeHow changeN changeD lastOf lastN lastD steps stepAction startN startD lengthN lengthD rows row tried triedAction triedRows triedRow times unit facts numN numD oldFacts oldN oldD point judged fault faultPoint toldFacts toldN toldD outN outD pointN pointD gone now leastN leastD greatestN greatestD events post) (.inl none) (MR pre 0 amountN amountD momentN momentD epsilonN epsilonD firstFacts firstN firstD wishes wants wantN wantD actions needs needTime needOf needHow needN needD changes changeTime changeOf changeHow changeN changeD lastOf lastN lastD steps stepAction startN startD lengthN lengthD (rows + 1) (up1 row rows p) tried triedAction triedRows triedRow times unit facts numN numD oldFacts oldN oldD point judged fault faultPoint toldFacts toldN toldD outN outD pointN pointD gone now leastN leastD greatestN greatestD events post) := by
  refine Cg.of (Nat.le_of_ble_eq_true rfl) ?_
  change Rg _ _ _ _ 0 [(0, .ref 168), (1, .int (iI p))] [] _ _ _
  refine Rg.step 1 F_Mo_push_0 rfl (fun _ => rfl) ?_
  refine Rg.step 2 F_Mo_push_1 rfl (fun _ => rfl) ?_
  refine Rg.step 3 F_Mo_push_2 rfl (fun _ => rfl) ?_
  refine Rg.step 4 F_Mo_push_3 rfl (fun _ => rfl) ?_
  refine Rg.step 5 F_Mo_push_4 rfl (fun _ => rfl) ?_
  refine Rg.getf 8 F_Mo_push_5 rfl rF_26_242 (gM hp) rfl ?_
  refine Rg.mulI 9 F_Mo_push_8 rfl ?_
  refine Rg.step 10 F_Mo_push_9 rfl (fun _ => rfl) ?_
  refine Rg.subI 11 F_Mo_push_10 rfl ?_
  refine Rg.call 14 F_Mo_push_11 rfl (one_S (by decide +kernel) rM_26_200 (by decide) (by simp) rfl rfl) (Nat.le_of_ble_eq_true rfl) (Cg.any (c_Mo_in (by omega) (by omega) (by omega))) ?_
  refine Rg.ifneP 21 17 F_Mo_push_14 rfl rfl (fun _ => ?_) (fun h14 => by omega)
  refine Rg.step 22 F_Mo_push_21 rfl (fun _ => rfl) ?_
  refine Rg.step 23 F_Mo_push_22 rfl (fun _ => rfl) ?_
  refine Rg.call 26 F_Mo_push_23 rfl (one_V rM_26_350 (by decide) (by simp) rfl rfl (gM hp) rfl) (Nat.le_of_ble_eq_true rfl) (Cg.any (c_Mo_isInRow hp wR wr (by omega))) ?_
  refine Rg.ifneP 46 29 F_Mo_push_26 rfl rfl (fun h26 => absurd h26 h2) (fun _ => ?_)
  refine Rg.step 30 F_Mo_push_29 rfl (fun _ => rfl) ?_
  refine Rg.step 31 F_Mo_push_30 rfl (fun _ => rfl) ?_
  refine Rg.remIp 32 F_Mo_push_31 rfl (by omega) (by omega) ?_
  refine Rg.step 33 F_Mo_push_32 rfl (fun _ => rfl) ?_
  refine Rg.icneI 50 36 F_Mo_push_33 rfl rfl (by omega) (by omega) (fun h33 => ?_) (fun h33 => ?_)
  · refine Rg.step 51 F_Mo_push_50 rfl (fun _ => rfl) ?_
    refine Rg.put 54 F_Mo_push_51 rfl rF_26_178 (gM hp) (by decide) (Nat.le_of_ble_eq_true rfl) (Or.inl rfl) rfl (sM_code hp) ?_
    refine Rg.step 55 F_Mo_push_54 rfl (fun _ => rfl) ?_
    refine Rg.getf 58 F_Mo_push_55 rfl rF_26_178 (gM hp) rfl ?_
    refine Rg.ifle 62 61 F_Mo_push_58 rfl rfl (fun _ => ?_) (fun h58 => absurd h58 (by decide))
    refine Rg.step 63 F_Mo_push_62 rfl (fun _ => rfl) ?_
    refine Rg.getf 66 F_Mo_push_63 rfl rF_26_108 (gM hp) rfl ?_
    refine Rg.step 67 F_Mo_push_66 rfl (fun _ => rfl) ?_
    refine Rg.getf 70 F_Mo_push_67 rfl rF_26_245 (gM hp) rfl ?_
    refine Rg.step 71 F_Mo_push_70 rfl (fun _ => rfl) ?_
    refine Rg.ist 72 F_Mo_push_71 rfl (gR_row hp) (by decide) (sR_row hp) (by omega) (by decide) ?_
    refine Rg.step 73 F_Mo_push_72 rfl (fun _ => rfl) ?_
    refine Rg.step 74 F_Mo_push_73 rfl (fun _ => rfl) ?_
    refine Rg.getf 77 F_Mo_push_74 rfl rF_26_245 (gM hp) rfl ?_
    refine Rg.step 78 F_Mo_push_77 rfl (fun _ => rfl) ?_
    refine Rg.addI 79 F_Mo_push_78 rfl ?_
    refine Rg.put 82 F_Mo_push_79 rfl rF_26_245 (gM hp) (by decide) (Nat.le_of_ble_eq_true rfl) (Or.inl rfl) rfl (sM_rows hp) ?_
    exact Rg.retV F_Mo_push_82 rfl rfl
  · refine Rg.step 37 F_Mo_push_36 rfl (fun _ => rfl) ?_
    refine Rg.step 38 F_Mo_push_37 rfl (fun _ => rfl) ?_
    refine Rg.step 39 F_Mo_push_38 rfl (fun _ => rfl) ?_
    refine Rg.subI 40 F_Mo_push_39 rfl ?_
    refine Rg.call 43 F_Mo_push_40 rfl (one_V rM_26_350 (by decide) (by simp) rfl rfl (gM hp) rfl) (Nat.le_of_ble_eq_true rfl) (Cg.any (c_Mo_isInRow hp wR wr (by omega))) ?_
    refine Rg.ifneP 50 46 F_Mo_push_43 rfl rfl (fun _ => ?_) (fun h43 => absurd (h3 h33) h43)
    refine Rg.step 51 F_Mo_push_50 rfl (fun _ => rfl) ?_
    refine Rg.put 54 F_Mo_push_51 rfl rF_26_178 (gM hp) (by decide) (Nat.le_of_ble_eq_true rfl) (Or.inl rfl) rfl (sM_code hp) ?_
    refine Rg.step 55 F_Mo_push_54 rfl (fun _ => rfl) ?_
    refine Rg.getf 58 F_Mo_push_55 rfl rF_26_178 (gM hp) rfl ?_
    refine Rg.ifle 62 61 F_Mo_push_58 rfl rfl (fun _ => ?_) (fun h58 => absurd h58 (by decide))
    refine Rg.step 63 F_Mo_push_62 rfl (fun _ => rfl) ?_
    refine Rg.getf 66 F_Mo_push_63 rfl rF_26_108 (gM hp) rfl ?_
    refine Rg.step 67 F_Mo_push_66 rfl (fun _ => rfl) ?_
    refine Rg.getf 70 F_Mo_push_67 rfl rF_26_245 (gM hp) rfl ?_
    refine Rg.step 71 F_Mo_push_70 rfl (fun _ => rfl) ?_
    refine Rg.ist 72 F_Mo_push_71 rfl (gR_row hp) (by decide) (sR_row hp) (by omega) (by decide) ?_
    refine Rg.step 73 F_Mo_push_72 rfl (fun _ => rfl) ?_
    refine Rg.step 74 F_Mo_push_73 rfl (fun _ => rfl) ?_
    refine Rg.getf 77 F_Mo_push_74 rfl rF_26_245 (gM hp) rfl ?_
    refine Rg.step 78 F_Mo_push_77 rfl (fun _ => rfl) ?_
    refine Rg.addI 79 F_Mo_push_78 rfl ?_
    refine Rg.put 82 F_Mo_push_79 rfl rF_26_245 (gM hp) (by decide) (Nat.le_of_ble_eq_true rfl) (Or.inl rfl) rfl (sM_rows hp) ?_
    exact Rg.retV F_Mo_push_82 rfl rfl
theorem c_Mo_push1 {d : Nat}  (hp : pre.length = 168) {p : Int} (wS : 0 ≤ steps ∧ steps ≤ 12) (wR : 0 ≤ rows ∧ rows ≤ 24) (wr : ∀ k, 0 ≤ row k ∧ row k ≤ 23) (b_0 : -2147483648 ≤ p ∧ p < 2147483648) (h1 : ¬ (0 ≤ p ∧ p ≤ 2 * steps - 1)) : Cg false (d + 1) m_Mo_push [.ref 168, .int (iI p)] (MR pre code amountN amountD momentN momentD epsilonN epsilonD firstFacts firstN firstD wishes wants wantN wantD actions needs needTime needOf needHow needN needD changes changeTime changeOf changeHow changeN changeD lastOf lastN lastD steps stepAction startN startD lengthN lengthD rows row tried triedAction triedRows triedRow times unit facts numN numD oldFacts oldN oldD point judged fault faultPoint toldFacts toldN toldD outN outD pointN pointD gone now leastN leastD greatestN greatestD events post) (.inl none) (MR pre 1 amountN amountD momentN momentD epsilonN epsilonD firstFacts firstN firstD wishes wants wantN wantD actions needs needTime needOf needHow needN needD changes changeTime changeOf changeHow changeN changeD lastOf lastN lastD steps stepAction startN startD lengthN lengthD rows row tried triedAction triedRows triedRow times unit facts numN numD oldFacts oldN oldD point judged fault faultPoint toldFacts toldN toldD outN outD pointN pointD gone now leastN leastD greatestN greatestD events post) := by
  refine Cg.of (Nat.le_of_ble_eq_true rfl) ?_
  change Rg _ _ _ _ 0 [(0, .ref 168), (1, .int (iI p))] [] _ _ _
  refine Rg.step 1 F_Mo_push_0 rfl (fun _ => rfl) ?_
  refine Rg.step 2 F_Mo_push_1 rfl (fun _ => rfl) ?_
  refine Rg.step 3 F_Mo_push_2 rfl (fun _ => rfl) ?_
  refine Rg.step 4 F_Mo_push_3 rfl (fun _ => rfl) ?_
  refine Rg.step 5 F_Mo_push_4 rfl (fun _ => rfl) ?_
  refine Rg.getf 8 F_Mo_push_5 rfl rF_26_242 (gM hp) rfl ?_
  refine Rg.mulI 9 F_Mo_push_8 rfl ?_
  refine Rg.step 10 F_Mo_push_9 rfl (fun _ => rfl) ?_
  refine Rg.subI 11 F_Mo_push_10 rfl ?_
  refine Rg.call 14 F_Mo_push_11 rfl (one_S (by decide +kernel) rM_26_200 (by decide) (by simp) rfl rfl) (Nat.le_of_ble_eq_true rfl) (Cg.any (c_Mo_in (by omega) (by omega) (by omega))) ?_
  refine Rg.ifneP 21 17 F_Mo_push_14 rfl rfl (fun h14 => by omega) (fun _ => ?_)
  refine Rg.step 18 F_Mo_push_17 rfl (fun _ => rfl) ?_
  refine Rg.step 51 F_Mo_push_18 rfl (fun _ => rfl) ?_
  refine Rg.put 54 F_Mo_push_51 rfl rF_26_178 (gM hp) (by decide) (Nat.le_of_ble_eq_true rfl) (Or.inl rfl) rfl (sM_code hp) ?_
  refine Rg.step 55 F_Mo_push_54 rfl (fun _ => rfl) ?_
  refine Rg.getf 58 F_Mo_push_55 rfl rF_26_178 (gM hp) rfl ?_
  refine Rg.ifle 62 61 F_Mo_push_58 rfl rfl (fun h58 => absurd h58 (by decide)) (fun _ => ?_)
  exact Rg.retV F_Mo_push_61 rfl rfl
theorem c_Mo_push2 {d : Nat}  (hp : pre.length = 168) {p : Int} (wS : 0 ≤ steps ∧ steps ≤ 12) (wR : 0 ≤ rows ∧ rows ≤ 24) (wr : ∀ k, 0 ≤ row k ∧ row k ≤ 23) (b_0 : -2147483648 ≤ p ∧ p < 2147483648) (h1 : 0 ≤ p ∧ p ≤ 2 * steps - 1) (h2 : inRow row rows p ∨ (p % 2 = 1 ∧ ¬ inRow row rows (p - 1))) : Cg false (d + 1) m_Mo_push [.ref 168, .int (iI p)] (MR pre code amountN amountD momentN momentD epsilonN epsilonD firstFacts firstN firstD wishes wants wantN wantD actions needs needTime needOf needHow needN needD changes changeTime changeOf changeHow changeN changeD lastOf lastN lastD steps stepAction startN startD lengthN lengthD rows row tried triedAction triedRows triedRow times unit facts numN numD oldFacts oldN oldD point judged fault faultPoint toldFacts toldN toldD outN outD pointN pointD gone now leastN leastD greatestN greatestD events post) (.inl none) (MR pre 2 amountN amountD momentN momentD epsilonN epsilonD firstFacts firstN firstD wishes wants wantN wantD actions needs needTime needOf needHow needN needD changes changeTime changeOf changeHow changeN changeD lastOf lastN lastD steps stepAction startN startD lengthN lengthD rows row tried triedAction triedRows triedRow times unit facts numN numD oldFacts oldN oldD point judged fault faultPoint toldFacts toldN toldD outN outD pointN pointD gone now leastN leastD greatestN greatestD events post) := by
  refine Cg.of (Nat.le_of_ble_eq_true rfl) ?_
  change Rg _ _ _ _ 0 [(0, .ref 168), (1, .int (iI p))] [] _ _ _
  refine Rg.step 1 F_Mo_push_0 rfl (fun _ => rfl) ?_
  refine Rg.step 2 F_Mo_push_1 rfl (fun _ => rfl) ?_
  refine Rg.step 3 F_Mo_push_2 rfl (fun _ => rfl) ?_
  refine Rg.step 4 F_Mo_push_3 rfl (fun _ => rfl) ?_
  refine Rg.step 5 F_Mo_push_4 rfl (fun _ => rfl) ?_
  refine Rg.getf 8 F_Mo_push_5 rfl rF_26_242 (gM hp) rfl ?_
  refine Rg.mulI 9 F_Mo_push_8 rfl ?_
  refine Rg.step 10 F_Mo_push_9 rfl (fun _ => rfl) ?_
  refine Rg.subI 11 F_Mo_push_10 rfl ?_
  refine Rg.call 14 F_Mo_push_11 rfl (one_S (by decide +kernel) rM_26_200 (by decide) (by simp) rfl rfl) (Nat.le_of_ble_eq_true rfl) (Cg.any (c_Mo_in (by omega) (by omega) (by omega))) ?_
  refine Rg.ifneP 21 17 F_Mo_push_14 rfl rfl (fun _ => ?_) (fun h14 => by omega)
  refine Rg.step 22 F_Mo_push_21 rfl (fun _ => rfl) ?_
  refine Rg.step 23 F_Mo_push_22 rfl (fun _ => rfl) ?_
  refine Rg.call 26 F_Mo_push_23 rfl (one_V rM_26_350 (by decide) (by simp) rfl rfl (gM hp) rfl) (Nat.le_of_ble_eq_true rfl) (Cg.any (c_Mo_isInRow hp wR wr (by omega))) ?_
  refine Rg.ifneP 46 29 F_Mo_push_26 rfl rfl (fun h26 => ?_) (fun h26 => ?_)
  · refine Rg.step 47 F_Mo_push_46 rfl (fun _ => rfl) ?_
    refine Rg.step 51 F_Mo_push_47 rfl (fun _ => rfl) ?_
    refine Rg.put 54 F_Mo_push_51 rfl rF_26_178 (gM hp) (by decide) (Nat.le_of_ble_eq_true rfl) (Or.inl rfl) rfl (sM_code hp) ?_
    refine Rg.step 55 F_Mo_push_54 rfl (fun _ => rfl) ?_
    refine Rg.getf 58 F_Mo_push_55 rfl rF_26_178 (gM hp) rfl ?_
    refine Rg.ifle 62 61 F_Mo_push_58 rfl rfl (fun h58 => absurd h58 (by decide)) (fun _ => ?_)
    exact Rg.retV F_Mo_push_61 rfl rfl
  · refine Rg.step 30 F_Mo_push_29 rfl (fun _ => rfl) ?_
    refine Rg.step 31 F_Mo_push_30 rfl (fun _ => rfl) ?_
    refine Rg.remIp 32 F_Mo_push_31 rfl (by omega) (by omega) ?_
    refine Rg.step 33 F_Mo_push_32 rfl (fun _ => rfl) ?_
    refine Rg.icneI 50 36 F_Mo_push_33 rfl rfl (by omega) (by omega) (fun h33 => absurd (h2.resolve_left h26).1 h33) (fun _ => ?_)
    refine Rg.step 37 F_Mo_push_36 rfl (fun _ => rfl) ?_
    refine Rg.step 38 F_Mo_push_37 rfl (fun _ => rfl) ?_
    refine Rg.step 39 F_Mo_push_38 rfl (fun _ => rfl) ?_
    refine Rg.subI 40 F_Mo_push_39 rfl ?_
    refine Rg.call 43 F_Mo_push_40 rfl (one_V rM_26_350 (by decide) (by simp) rfl rfl (gM hp) rfl) (Nat.le_of_ble_eq_true rfl) (Cg.any (c_Mo_isInRow hp wR wr (by omega))) ?_
    refine Rg.ifneP 50 46 F_Mo_push_43 rfl rfl (fun h43 => absurd h43 (h2.resolve_left h26).2) (fun _ => ?_)
    refine Rg.step 47 F_Mo_push_46 rfl (fun _ => rfl) ?_
    refine Rg.step 51 F_Mo_push_47 rfl (fun _ => rfl) ?_
    refine Rg.put 54 F_Mo_push_51 rfl rF_26_178 (gM hp) (by decide) (Nat.le_of_ble_eq_true rfl) (Or.inl rfl) rfl (sM_code hp) ?_
    refine Rg.step 55 F_Mo_push_54 rfl (fun _ => rfl) ?_
    refine Rg.getf 58 F_Mo_push_55 rfl rF_26_178 (gM hp) rfl ?_
    refine Rg.ifle 62 61 F_Mo_push_58 rfl rfl (fun h58 => absurd h58 (by decide)) (fun _ => ?_)
    exact Rg.retV F_Mo_push_61 rfl rfl
theorem c_Mo_pop {d : Nat}  (hp : pre.length = 168) (wR : 0 ≤ rows ∧ rows ≤ 24) (h : ¬ rows = 0) : Cg false d m_Mo_pop [.ref 168] (MR pre code amountN amountD momentN momentD epsilonN epsilonD firstFacts firstN firstD wishes wants wantN wantD actions needs needTime needOf needHow needN needD changes changeTime changeOf changeHow changeN changeD lastOf lastN lastD steps stepAction startN startD lengthN lengthD rows row tried triedAction triedRows triedRow times unit facts numN numD oldFacts oldN oldD point judged fault faultPoint toldFacts toldN toldD outN outD pointN pointD gone now leastN leastD greatestN greatestD events post) (.inl (some (.int (iI (row (rows - 1)))))) (MR pre 0 amountN amountD momentN momentD epsilonN epsilonD firstFacts firstN firstD wishes wants wantN wantD actions needs needTime needOf needHow needN needD changes changeTime changeOf changeHow changeN changeD lastOf lastN lastD steps stepAction startN startD lengthN lengthD (rows - 1) row tried triedAction triedRows triedRow times unit facts numN numD oldFacts oldN oldD point judged fault faultPoint toldFacts toldN toldD outN outD pointN pointD gone now leastN leastD greatestN greatestD events post) := by
  refine Cg.of (Nat.le_of_ble_eq_true rfl) ?_
  change Rg _ _ _ _ 0 [(0, .ref 168)] [] _ _ _
  refine Rg.step 1 F_Mo_pop_0 rfl (fun _ => rfl) ?_
  refine Rg.step 2 F_Mo_pop_1 rfl (fun _ => rfl) ?_
  refine Rg.put 5 F_Mo_pop_2 rfl rF_26_178 (gM hp) (by decide) (Nat.le_of_ble_eq_true rfl) (Or.inl rfl) rfl (sM_code hp) ?_
  refine Rg.step 6 F_Mo_pop_5 rfl (fun _ => rfl) ?_
  refine Rg.getf 9 F_Mo_pop_6 rfl rF_26_245 (gM hp) rfl ?_
  refine Rg.ifneI 14 12 F_Mo_pop_9 rfl rfl (by omega) (fun _ => ?_) (fun h9 => by omega)
  refine Rg.step 15 F_Mo_pop_14 rfl (fun _ => rfl) ?_
  refine Rg.step 16 F_Mo_pop_15 rfl (fun _ => rfl) ?_
  refine Rg.getf 19 F_Mo_pop_16 rfl rF_26_245 (gM hp) rfl ?_
  refine Rg.step 20 F_Mo_pop_19 rfl (fun _ => rfl) ?_
  refine Rg.subI 21 F_Mo_pop_20 rfl ?_
  refine Rg.put 24 F_Mo_pop_21 rfl rF_26_245 (gM hp) (by decide) (Nat.le_of_ble_eq_true rfl) (Or.inl rfl) rfl (sM_rows hp) ?_
  refine Rg.step 25 F_Mo_pop_24 rfl (fun _ => rfl) ?_
  refine Rg.getf 28 F_Mo_pop_25 rfl rF_26_108 (gM hp) rfl ?_
  refine Rg.step 29 F_Mo_pop_28 rfl (fun _ => rfl) ?_
  refine Rg.getf 32 F_Mo_pop_29 rfl rF_26_245 (gM hp) rfl ?_
  refine Rg.ild 33 F_Mo_pop_32 rfl (gR_row hp) (by omega) (by decide) ?_
  exact Rg.retI F_Mo_pop_33 rfl rfl rfl
theorem c_Mo_pop0 {d : Nat}  (hp : pre.length = 168) (wR : 0 ≤ rows ∧ rows ≤ 24) (h : rows = 0) : Cg false d m_Mo_pop [.ref 168] (MR pre code amountN amountD momentN momentD epsilonN epsilonD firstFacts firstN firstD wishes wants wantN wantD actions needs needTime needOf needHow needN needD changes changeTime changeOf changeHow changeN changeD lastOf lastN lastD steps stepAction startN startD lengthN lengthD rows row tried triedAction triedRows triedRow times unit facts numN numD oldFacts oldN oldD point judged fault faultPoint toldFacts toldN toldD outN outD pointN pointD gone now leastN leastD greatestN greatestD events post) (.inl (some (.int (iI (-1))))) (MR pre 0 amountN amountD momentN momentD epsilonN epsilonD firstFacts firstN firstD wishes wants wantN wantD actions needs needTime needOf needHow needN needD changes changeTime changeOf changeHow changeN changeD lastOf lastN lastD steps stepAction startN startD lengthN lengthD rows row tried triedAction triedRows triedRow times unit facts numN numD oldFacts oldN oldD point judged fault faultPoint toldFacts toldN toldD outN outD pointN pointD gone now leastN leastD greatestN greatestD events post) := by
  refine Cg.of (Nat.le_of_ble_eq_true rfl) ?_
  change Rg _ _ _ _ 0 [(0, .ref 168)] [] _ _ _
  refine Rg.step 1 F_Mo_pop_0 rfl (fun _ => rfl) ?_
  refine Rg.step 2 F_Mo_pop_1 rfl (fun _ => rfl) ?_
  refine Rg.put 5 F_Mo_pop_2 rfl rF_26_178 (gM hp) (by decide) (Nat.le_of_ble_eq_true rfl) (Or.inl rfl) rfl (sM_code hp) ?_
  refine Rg.step 6 F_Mo_pop_5 rfl (fun _ => rfl) ?_
  refine Rg.getf 9 F_Mo_pop_6 rfl rF_26_245 (gM hp) rfl ?_
  refine Rg.ifneI 14 12 F_Mo_pop_9 rfl rfl (by omega) (fun h9 => by omega) (fun _ => ?_)
  refine Rg.step 13 F_Mo_pop_12 rfl (fun _ => rfl) ?_
  exact Rg.retI F_Mo_pop_13 rfl rfl rfl
theorem c_Mo_count_0 {d : Nat}  (hp : pre.length = 168) : Cg false (d + 1) m_Mo_count [.ref 168, .int (iI 0)] (MR pre code amountN amountD momentN momentD epsilonN epsilonD firstFacts firstN firstD wishes wants wantN wantD actions needs needTime needOf needHow needN needD changes changeTime changeOf changeHow changeN changeD lastOf lastN lastD steps stepAction startN startD lengthN lengthD rows row tried triedAction triedRows triedRow times unit facts numN numD oldFacts oldN oldD point judged fault faultPoint toldFacts toldN toldD outN outD pointN pointD gone now leastN leastD greatestN greatestD events post) (.inl (some (.int (iI fault)))) (MR pre 0 amountN amountD momentN momentD epsilonN epsilonD firstFacts firstN firstD wishes wants wantN wantD actions needs needTime needOf needHow needN needD changes changeTime changeOf changeHow changeN changeD lastOf lastN lastD steps stepAction startN startD lengthN lengthD rows row tried triedAction triedRows triedRow times unit facts numN numD oldFacts oldN oldD point judged fault faultPoint toldFacts toldN toldD outN outD pointN pointD gone now leastN leastD greatestN greatestD events post) := by
  refine Cg.of (Nat.le_of_ble_eq_true rfl) ?_
  change Rg _ _ _ _ 0 [(0, .ref 168), (1, .int (iI 0))] [] _ _ _
  refine Rg.step 1 F_Mo_count_0 rfl (fun _ => rfl) ?_
  refine Rg.step 2 F_Mo_count_1 rfl (fun _ => rfl) ?_
  refine Rg.step 3 F_Mo_count_2 rfl (fun _ => rfl) ?_
  refine Rg.step 4 F_Mo_count_3 rfl (fun _ => rfl) ?_
  refine Rg.call 7 F_Mo_count_4 rfl (one_S (by decide +kernel) rM_26_200 (by decide) (by simp) rfl rfl) (Nat.le_of_ble_eq_true rfl) (Cg.any (c_Mo_in (by omega) (by omega) (by omega))) ?_
  refine Rg.ifeqP 14 10 F_Mo_count_7 rfl rfl (fun h7 => by omega) (fun _ => ?_)
  refine Rg.step 11 F_Mo_count_10 rfl (fun _ => rfl) ?_
  refine Rg.step 15 F_Mo_count_11 rfl (fun _ => rfl) ?_
  refine Rg.put 18 F_Mo_count_15 rfl rF_26_178 (gM hp) (by decide) (Nat.le_of_ble_eq_true rfl) (Or.inl rfl) rfl (sM_code hp) ?_
  refine Rg.step 19 F_Mo_count_18 rfl (fun _ => rfl) ?_
  refine Rg.getf 22 F_Mo_count_19 rfl rF_26_178 (gM hp) rfl ?_
  refine Rg.ifle 27 25 F_Mo_count_22 rfl rfl (fun _ => ?_) (fun h22 => absurd h22 (by decide))
  refine Rg.step 28 F_Mo_count_27 rfl (fun _ => rfl) ?_
  refine Rg.ifneI 38 31 F_Mo_count_28 rfl rfl (by omega) (fun h28 => by omega) (fun _ => ?_)
  refine Rg.step 32 F_Mo_count_31 rfl (fun _ => rfl) ?_
  refine Rg.getf 35 F_Mo_count_32 rfl rF_26_324 (gM hp) rfl ?_
  refine Rg.step 78 F_Mo_count_35 rfl (fun _ => rfl) ?_
  exact Rg.retI F_Mo_count_78 rfl rfl rfl
theorem c_Mo_count_1 {d : Nat}  (hp : pre.length = 168) : Cg false (d + 1) m_Mo_count [.ref 168, .int (iI 1)] (MR pre code amountN amountD momentN momentD epsilonN epsilonD firstFacts firstN firstD wishes wants wantN wantD actions needs needTime needOf needHow needN needD changes changeTime changeOf changeHow changeN changeD lastOf lastN lastD steps stepAction startN startD lengthN lengthD rows row tried triedAction triedRows triedRow times unit facts numN numD oldFacts oldN oldD point judged fault faultPoint toldFacts toldN toldD outN outD pointN pointD gone now leastN leastD greatestN greatestD events post) (.inl (some (.int (iI faultPoint)))) (MR pre 0 amountN amountD momentN momentD epsilonN epsilonD firstFacts firstN firstD wishes wants wantN wantD actions needs needTime needOf needHow needN needD changes changeTime changeOf changeHow changeN changeD lastOf lastN lastD steps stepAction startN startD lengthN lengthD rows row tried triedAction triedRows triedRow times unit facts numN numD oldFacts oldN oldD point judged fault faultPoint toldFacts toldN toldD outN outD pointN pointD gone now leastN leastD greatestN greatestD events post) := by
  refine Cg.of (Nat.le_of_ble_eq_true rfl) ?_
  change Rg _ _ _ _ 0 [(0, .ref 168), (1, .int (iI 1))] [] _ _ _
  refine Rg.step 1 F_Mo_count_0 rfl (fun _ => rfl) ?_
  refine Rg.step 2 F_Mo_count_1 rfl (fun _ => rfl) ?_
  refine Rg.step 3 F_Mo_count_2 rfl (fun _ => rfl) ?_
  refine Rg.step 4 F_Mo_count_3 rfl (fun _ => rfl) ?_
  refine Rg.call 7 F_Mo_count_4 rfl (one_S (by decide +kernel) rM_26_200 (by decide) (by simp) rfl rfl) (Nat.le_of_ble_eq_true rfl) (Cg.any (c_Mo_in (by omega) (by omega) (by omega))) ?_
  refine Rg.ifeqP 14 10 F_Mo_count_7 rfl rfl (fun h7 => by omega) (fun _ => ?_)
  refine Rg.step 11 F_Mo_count_10 rfl (fun _ => rfl) ?_
  refine Rg.step 15 F_Mo_count_11 rfl (fun _ => rfl) ?_
  refine Rg.put 18 F_Mo_count_15 rfl rF_26_178 (gM hp) (by decide) (Nat.le_of_ble_eq_true rfl) (Or.inl rfl) rfl (sM_code hp) ?_
  refine Rg.step 19 F_Mo_count_18 rfl (fun _ => rfl) ?_
  refine Rg.getf 22 F_Mo_count_19 rfl rF_26_178 (gM hp) rfl ?_
  refine Rg.ifle 27 25 F_Mo_count_22 rfl rfl (fun _ => ?_) (fun h22 => absurd h22 (by decide))
  refine Rg.step 28 F_Mo_count_27 rfl (fun _ => rfl) ?_
  refine Rg.ifneI 38 31 F_Mo_count_28 rfl rfl (by omega) (fun _ => ?_) (fun h28 => by omega)
  refine Rg.step 39 F_Mo_count_38 rfl (fun _ => rfl) ?_
  refine Rg.step 40 F_Mo_count_39 rfl (fun _ => rfl) ?_
  refine Rg.icneI 50 43 F_Mo_count_40 rfl rfl (by omega) (by omega) (fun h40 => by omega) (fun _ => ?_)
  refine Rg.step 44 F_Mo_count_43 rfl (fun _ => rfl) ?_
  refine Rg.getf 47 F_Mo_count_44 rfl rF_26_138 (gM hp) rfl ?_
  refine Rg.step 78 F_Mo_count_47 rfl (fun _ => rfl) ?_
  exact Rg.retI F_Mo_count_78 rfl rfl rfl
theorem c_Mo_count_2 {d : Nat}  (hp : pre.length = 168) : Cg false (d + 1) m_Mo_count [.ref 168, .int (iI 2)] (MR pre code amountN amountD momentN momentD epsilonN epsilonD firstFacts firstN firstD wishes wants wantN wantD actions needs needTime needOf needHow needN needD changes changeTime changeOf changeHow changeN changeD lastOf lastN lastD steps stepAction startN startD lengthN lengthD rows row tried triedAction triedRows triedRow times unit facts numN numD oldFacts oldN oldD point judged fault faultPoint toldFacts toldN toldD outN outD pointN pointD gone now leastN leastD greatestN greatestD events post) (.inl (some (.int (iI actions)))) (MR pre 0 amountN amountD momentN momentD epsilonN epsilonD firstFacts firstN firstD wishes wants wantN wantD actions needs needTime needOf needHow needN needD changes changeTime changeOf changeHow changeN changeD lastOf lastN lastD steps stepAction startN startD lengthN lengthD rows row tried triedAction triedRows triedRow times unit facts numN numD oldFacts oldN oldD point judged fault faultPoint toldFacts toldN toldD outN outD pointN pointD gone now leastN leastD greatestN greatestD events post) := by
  refine Cg.of (Nat.le_of_ble_eq_true rfl) ?_
  change Rg _ _ _ _ 0 [(0, .ref 168), (1, .int (iI 2))] [] _ _ _
  refine Rg.step 1 F_Mo_count_0 rfl (fun _ => rfl) ?_
  refine Rg.step 2 F_Mo_count_1 rfl (fun _ => rfl) ?_
  refine Rg.step 3 F_Mo_count_2 rfl (fun _ => rfl) ?_
  refine Rg.step 4 F_Mo_count_3 rfl (fun _ => rfl) ?_
  refine Rg.call 7 F_Mo_count_4 rfl (one_S (by decide +kernel) rM_26_200 (by decide) (by simp) rfl rfl) (Nat.le_of_ble_eq_true rfl) (Cg.any (c_Mo_in (by omega) (by omega) (by omega))) ?_
  refine Rg.ifeqP 14 10 F_Mo_count_7 rfl rfl (fun h7 => by omega) (fun _ => ?_)
  refine Rg.step 11 F_Mo_count_10 rfl (fun _ => rfl) ?_
  refine Rg.step 15 F_Mo_count_11 rfl (fun _ => rfl) ?_
  refine Rg.put 18 F_Mo_count_15 rfl rF_26_178 (gM hp) (by decide) (Nat.le_of_ble_eq_true rfl) (Or.inl rfl) rfl (sM_code hp) ?_
  refine Rg.step 19 F_Mo_count_18 rfl (fun _ => rfl) ?_
  refine Rg.getf 22 F_Mo_count_19 rfl rF_26_178 (gM hp) rfl ?_
  refine Rg.ifle 27 25 F_Mo_count_22 rfl rfl (fun _ => ?_) (fun h22 => absurd h22 (by decide))
  refine Rg.step 28 F_Mo_count_27 rfl (fun _ => rfl) ?_
  refine Rg.ifneI 38 31 F_Mo_count_28 rfl rfl (by omega) (fun _ => ?_) (fun h28 => by omega)
  refine Rg.step 39 F_Mo_count_38 rfl (fun _ => rfl) ?_
  refine Rg.step 40 F_Mo_count_39 rfl (fun _ => rfl) ?_
  refine Rg.icneI 50 43 F_Mo_count_40 rfl rfl (by omega) (by omega) (fun _ => ?_) (fun h40 => by omega)
  refine Rg.step 51 F_Mo_count_50 rfl (fun _ => rfl) ?_
  refine Rg.step 52 F_Mo_count_51 rfl (fun _ => rfl) ?_
  refine Rg.icneI 62 55 F_Mo_count_52 rfl rfl (by omega) (by omega) (fun h52 => by omega) (fun _ => ?_)
  refine Rg.step 56 F_Mo_count_55 rfl (fun _ => rfl) ?_
  refine Rg.getf 59 F_Mo_count_56 rfl rF_26_218 (gM hp) rfl ?_
  refine Rg.step 78 F_Mo_count_59 rfl (fun _ => rfl) ?_
  exact Rg.retI F_Mo_count_78 rfl rfl rfl
theorem c_Mo_count_3 {d : Nat}  (hp : pre.length = 168) : Cg false (d + 1) m_Mo_count [.ref 168, .int (iI 3)] (MR pre code amountN amountD momentN momentD epsilonN epsilonD firstFacts firstN firstD wishes wants wantN wantD actions needs needTime needOf needHow needN needD changes changeTime changeOf changeHow changeN changeD lastOf lastN lastD steps stepAction startN startD lengthN lengthD rows row tried triedAction triedRows triedRow times unit facts numN numD oldFacts oldN oldD point judged fault faultPoint toldFacts toldN toldD outN outD pointN pointD gone now leastN leastD greatestN greatestD events post) (.inl (some (.int (iI steps)))) (MR pre 0 amountN amountD momentN momentD epsilonN epsilonD firstFacts firstN firstD wishes wants wantN wantD actions needs needTime needOf needHow needN needD changes changeTime changeOf changeHow changeN changeD lastOf lastN lastD steps stepAction startN startD lengthN lengthD rows row tried triedAction triedRows triedRow times unit facts numN numD oldFacts oldN oldD point judged fault faultPoint toldFacts toldN toldD outN outD pointN pointD gone now leastN leastD greatestN greatestD events post) := by
  refine Cg.of (Nat.le_of_ble_eq_true rfl) ?_
  change Rg _ _ _ _ 0 [(0, .ref 168), (1, .int (iI 3))] [] _ _ _
  refine Rg.step 1 F_Mo_count_0 rfl (fun _ => rfl) ?_
  refine Rg.step 2 F_Mo_count_1 rfl (fun _ => rfl) ?_
  refine Rg.step 3 F_Mo_count_2 rfl (fun _ => rfl) ?_
  refine Rg.step 4 F_Mo_count_3 rfl (fun _ => rfl) ?_
  refine Rg.call 7 F_Mo_count_4 rfl (one_S (by decide +kernel) rM_26_200 (by decide) (by simp) rfl rfl) (Nat.le_of_ble_eq_true rfl) (Cg.any (c_Mo_in (by omega) (by omega) (by omega))) ?_
  refine Rg.ifeqP 14 10 F_Mo_count_7 rfl rfl (fun h7 => by omega) (fun _ => ?_)
  refine Rg.step 11 F_Mo_count_10 rfl (fun _ => rfl) ?_
  refine Rg.step 15 F_Mo_count_11 rfl (fun _ => rfl) ?_
  refine Rg.put 18 F_Mo_count_15 rfl rF_26_178 (gM hp) (by decide) (Nat.le_of_ble_eq_true rfl) (Or.inl rfl) rfl (sM_code hp) ?_
  refine Rg.step 19 F_Mo_count_18 rfl (fun _ => rfl) ?_
  refine Rg.getf 22 F_Mo_count_19 rfl rF_26_178 (gM hp) rfl ?_
  refine Rg.ifle 27 25 F_Mo_count_22 rfl rfl (fun _ => ?_) (fun h22 => absurd h22 (by decide))
  refine Rg.step 28 F_Mo_count_27 rfl (fun _ => rfl) ?_
  refine Rg.ifneI 38 31 F_Mo_count_28 rfl rfl (by omega) (fun _ => ?_) (fun h28 => by omega)
  refine Rg.step 39 F_Mo_count_38 rfl (fun _ => rfl) ?_
  refine Rg.step 40 F_Mo_count_39 rfl (fun _ => rfl) ?_
  refine Rg.icneI 50 43 F_Mo_count_40 rfl rfl (by omega) (by omega) (fun _ => ?_) (fun h40 => by omega)
  refine Rg.step 51 F_Mo_count_50 rfl (fun _ => rfl) ?_
  refine Rg.step 52 F_Mo_count_51 rfl (fun _ => rfl) ?_
  refine Rg.icneI 62 55 F_Mo_count_52 rfl rfl (by omega) (by omega) (fun _ => ?_) (fun h52 => by omega)
  refine Rg.step 63 F_Mo_count_62 rfl (fun _ => rfl) ?_
  refine Rg.step 64 F_Mo_count_63 rfl (fun _ => rfl) ?_
  refine Rg.icneI 74 67 F_Mo_count_64 rfl rfl (by omega) (by omega) (fun h64 => by omega) (fun _ => ?_)
  refine Rg.step 68 F_Mo_count_67 rfl (fun _ => rfl) ?_
  refine Rg.getf 71 F_Mo_count_68 rfl rF_26_242 (gM hp) rfl ?_
  refine Rg.step 78 F_Mo_count_71 rfl (fun _ => rfl) ?_
  exact Rg.retI F_Mo_count_78 rfl rfl rfl
theorem c_Mo_count_4 {d : Nat}  (hp : pre.length = 168) : Cg false (d + 1) m_Mo_count [.ref 168, .int (iI 4)] (MR pre code amountN amountD momentN momentD epsilonN epsilonD firstFacts firstN firstD wishes wants wantN wantD actions needs needTime needOf needHow needN needD changes changeTime changeOf changeHow changeN changeD lastOf lastN lastD steps stepAction startN startD lengthN lengthD rows row tried triedAction triedRows triedRow times unit facts numN numD oldFacts oldN oldD point judged fault faultPoint toldFacts toldN toldD outN outD pointN pointD gone now leastN leastD greatestN greatestD events post) (.inl (some (.int (iI rows)))) (MR pre 0 amountN amountD momentN momentD epsilonN epsilonD firstFacts firstN firstD wishes wants wantN wantD actions needs needTime needOf needHow needN needD changes changeTime changeOf changeHow changeN changeD lastOf lastN lastD steps stepAction startN startD lengthN lengthD rows row tried triedAction triedRows triedRow times unit facts numN numD oldFacts oldN oldD point judged fault faultPoint toldFacts toldN toldD outN outD pointN pointD gone now leastN leastD greatestN greatestD events post) := by
  refine Cg.of (Nat.le_of_ble_eq_true rfl) ?_
  change Rg _ _ _ _ 0 [(0, .ref 168), (1, .int (iI 4))] [] _ _ _
  refine Rg.step 1 F_Mo_count_0 rfl (fun _ => rfl) ?_
  refine Rg.step 2 F_Mo_count_1 rfl (fun _ => rfl) ?_
  refine Rg.step 3 F_Mo_count_2 rfl (fun _ => rfl) ?_
  refine Rg.step 4 F_Mo_count_3 rfl (fun _ => rfl) ?_
  refine Rg.call 7 F_Mo_count_4 rfl (one_S (by decide +kernel) rM_26_200 (by decide) (by simp) rfl rfl) (Nat.le_of_ble_eq_true rfl) (Cg.any (c_Mo_in (by omega) (by omega) (by omega))) ?_
  refine Rg.ifeqP 14 10 F_Mo_count_7 rfl rfl (fun h7 => by omega) (fun _ => ?_)
  refine Rg.step 11 F_Mo_count_10 rfl (fun _ => rfl) ?_
  refine Rg.step 15 F_Mo_count_11 rfl (fun _ => rfl) ?_
  refine Rg.put 18 F_Mo_count_15 rfl rF_26_178 (gM hp) (by decide) (Nat.le_of_ble_eq_true rfl) (Or.inl rfl) rfl (sM_code hp) ?_
  refine Rg.step 19 F_Mo_count_18 rfl (fun _ => rfl) ?_
  refine Rg.getf 22 F_Mo_count_19 rfl rF_26_178 (gM hp) rfl ?_
  refine Rg.ifle 27 25 F_Mo_count_22 rfl rfl (fun _ => ?_) (fun h22 => absurd h22 (by decide))
  refine Rg.step 28 F_Mo_count_27 rfl (fun _ => rfl) ?_
  refine Rg.ifneI 38 31 F_Mo_count_28 rfl rfl (by omega) (fun _ => ?_) (fun h28 => by omega)
  refine Rg.step 39 F_Mo_count_38 rfl (fun _ => rfl) ?_
  refine Rg.step 40 F_Mo_count_39 rfl (fun _ => rfl) ?_
  refine Rg.icneI 50 43 F_Mo_count_40 rfl rfl (by omega) (by omega) (fun _ => ?_) (fun h40 => by omega)
  refine Rg.step 51 F_Mo_count_50 rfl (fun _ => rfl) ?_
  refine Rg.step 52 F_Mo_count_51 rfl (fun _ => rfl) ?_
  refine Rg.icneI 62 55 F_Mo_count_52 rfl rfl (by omega) (by omega) (fun _ => ?_) (fun h52 => by omega)
  refine Rg.step 63 F_Mo_count_62 rfl (fun _ => rfl) ?_
  refine Rg.step 64 F_Mo_count_63 rfl (fun _ => rfl) ?_
  refine Rg.icneI 74 67 F_Mo_count_64 rfl rfl (by omega) (by omega) (fun _ => ?_) (fun h64 => by omega)
  refine Rg.step 75 F_Mo_count_74 rfl (fun _ => rfl) ?_
  refine Rg.getf 78 F_Mo_count_75 rfl rF_26_245 (gM hp) rfl ?_
  exact Rg.retI F_Mo_count_78 rfl rfl rfl
theorem c_Mo_count1 {d : Nat}  (hp : pre.length = 168) {w : Int} (b_0 : -2147483648 ≤ w ∧ w < 2147483648) (h : ¬ (0 ≤ w ∧ w ≤ 4)) : Cg false (d + 1) m_Mo_count [.ref 168, .int (iI w)] (MR pre code amountN amountD momentN momentD epsilonN epsilonD firstFacts firstN firstD wishes wants wantN wantD actions needs needTime needOf needHow needN needD changes changeTime changeOf changeHow changeN changeD lastOf lastN lastD steps stepAction startN startD lengthN lengthD rows row tried triedAction triedRows triedRow times unit facts numN numD oldFacts oldN oldD point judged fault faultPoint toldFacts toldN toldD outN outD pointN pointD gone now leastN leastD greatestN greatestD events post) (.inl (some (.int (iI 0)))) (MR pre 1 amountN amountD momentN momentD epsilonN epsilonD firstFacts firstN firstD wishes wants wantN wantD actions needs needTime needOf needHow needN needD changes changeTime changeOf changeHow changeN changeD lastOf lastN lastD steps stepAction startN startD lengthN lengthD rows row tried triedAction triedRows triedRow times unit facts numN numD oldFacts oldN oldD point judged fault faultPoint toldFacts toldN toldD outN outD pointN pointD gone now leastN leastD greatestN greatestD events post) := by
  refine Cg.of (Nat.le_of_ble_eq_true rfl) ?_
  change Rg _ _ _ _ 0 [(0, .ref 168), (1, .int (iI w))] [] _ _ _
  refine Rg.step 1 F_Mo_count_0 rfl (fun _ => rfl) ?_
  refine Rg.step 2 F_Mo_count_1 rfl (fun _ => rfl) ?_
  refine Rg.step 3 F_Mo_count_2 rfl (fun _ => rfl) ?_
  refine Rg.step 4 F_Mo_count_3 rfl (fun _ => rfl) ?_
  refine Rg.call 7 F_Mo_count_4 rfl (one_S (by decide +kernel) rM_26_200 (by decide) (by simp) rfl rfl) (Nat.le_of_ble_eq_true rfl) (Cg.any (c_Mo_in (by omega) (by omega) (by omega))) ?_
  refine Rg.ifeqP 14 10 F_Mo_count_7 rfl rfl (fun _ => ?_) (fun h7 => by omega)
  refine Rg.step 15 F_Mo_count_14 rfl (fun _ => rfl) ?_
  refine Rg.put 18 F_Mo_count_15 rfl rF_26_178 (gM hp) (by decide) (Nat.le_of_ble_eq_true rfl) (Or.inl rfl) rfl (sM_code hp) ?_
  refine Rg.step 19 F_Mo_count_18 rfl (fun _ => rfl) ?_
  refine Rg.getf 22 F_Mo_count_19 rfl rF_26_178 (gM hp) rfl ?_
  refine Rg.ifle 27 25 F_Mo_count_22 rfl rfl (fun h22 => absurd h22 (by decide)) (fun _ => ?_)
  refine Rg.step 26 F_Mo_count_25 rfl (fun _ => rfl) ?_
  exact Rg.retI F_Mo_count_26 rfl rfl rfl
theorem c_Mo_done {d : Nat}  (hp : pre.length = 168) {s : Int} (wS : 0 ≤ steps ∧ steps ≤ 12) (b_0 : -2147483648 ≤ s ∧ s < 2147483648) (h : 0 ≤ s ∧ s ≤ steps - 1) : Cg false (d + 1) m_Mo_done [.ref 168, .int (iI s)] (MR pre code amountN amountD momentN momentD epsilonN epsilonD firstFacts firstN firstD wishes wants wantN wantD actions needs needTime needOf needHow needN needD changes changeTime changeOf changeHow changeN changeD lastOf lastN lastD steps stepAction startN startD lengthN lengthD rows row tried triedAction triedRows triedRow times unit facts numN numD oldFacts oldN oldD point judged fault faultPoint toldFacts toldN toldD outN outD pointN pointD gone now leastN leastD greatestN greatestD events post) (.inl (some (.int (iI (stepAction s))))) (MR pre 0 amountN amountD momentN momentD epsilonN epsilonD firstFacts firstN firstD wishes wants wantN wantD actions needs needTime needOf needHow needN needD changes changeTime changeOf changeHow changeN changeD lastOf lastN lastD steps stepAction startN startD lengthN lengthD rows row tried triedAction triedRows triedRow times unit facts numN numD oldFacts oldN oldD point judged fault faultPoint toldFacts toldN toldD outN outD pointN pointD gone now leastN leastD greatestN greatestD events post) := by
  refine Cg.of (Nat.le_of_ble_eq_true rfl) ?_
  change Rg _ _ _ _ 0 [(0, .ref 168), (1, .int (iI s))] [] _ _ _
  refine Rg.step 1 F_Mo_done_0 rfl (fun _ => rfl) ?_
  refine Rg.step 2 F_Mo_done_1 rfl (fun _ => rfl) ?_
  refine Rg.step 3 F_Mo_done_2 rfl (fun _ => rfl) ?_
  refine Rg.step 4 F_Mo_done_3 rfl (fun _ => rfl) ?_
  refine Rg.getf 7 F_Mo_done_4 rfl rF_26_242 (gM hp) rfl ?_
  refine Rg.step 8 F_Mo_done_7 rfl (fun _ => rfl) ?_
  refine Rg.subI 9 F_Mo_done_8 rfl ?_
  refine Rg.call 12 F_Mo_done_9 rfl (one_S (by decide +kernel) rM_26_200 (by decide) (by simp) rfl rfl) (Nat.le_of_ble_eq_true rfl) (Cg.any (c_Mo_in (by omega) (by omega) (by omega))) ?_
  refine Rg.ifeqP 19 15 F_Mo_done_12 rfl rfl (fun h12 => by omega) (fun _ => ?_)
  refine Rg.step 16 F_Mo_done_15 rfl (fun _ => rfl) ?_
  refine Rg.step 20 F_Mo_done_16 rfl (fun _ => rfl) ?_
  refine Rg.put 23 F_Mo_done_20 rfl rF_26_178 (gM hp) (by decide) (Nat.le_of_ble_eq_true rfl) (Or.inl rfl) rfl (sM_code hp) ?_
  refine Rg.step 24 F_Mo_done_23 rfl (fun _ => rfl) ?_
  refine Rg.getf 27 F_Mo_done_24 rfl rF_26_178 (gM hp) rfl ?_
  refine Rg.ifle 34 30 F_Mo_done_27 rfl rfl (fun _ => ?_) (fun h27 => absurd h27 (by decide))
  refine Rg.step 35 F_Mo_done_34 rfl (fun _ => rfl) ?_
  refine Rg.getf 38 F_Mo_done_35 rfl rF_26_93 (gM hp) rfl ?_
  refine Rg.step 39 F_Mo_done_38 rfl (fun _ => rfl) ?_
  refine Rg.ild 40 F_Mo_done_39 rfl (gR_stepAction hp) (by omega) (by decide) ?_
  exact Rg.retI F_Mo_done_40 rfl rfl rfl
theorem c_Mo_done1 {d : Nat}  (hp : pre.length = 168) {s : Int} (wS : 0 ≤ steps ∧ steps ≤ 12) (b_0 : -2147483648 ≤ s ∧ s < 2147483648) (h : ¬ (0 ≤ s ∧ s ≤ steps - 1)) : Cg false (d + 1) m_Mo_done [.ref 168, .int (iI s)] (MR pre code amountN amountD momentN momentD epsilonN epsilonD firstFacts firstN firstD wishes wants wantN wantD actions needs needTime needOf needHow needN needD changes changeTime changeOf changeHow changeN changeD lastOf lastN lastD steps stepAction startN startD lengthN lengthD rows row tried triedAction triedRows triedRow times unit facts numN numD oldFacts oldN oldD point judged fault faultPoint toldFacts toldN toldD outN outD pointN pointD gone now leastN leastD greatestN greatestD events post) (.inl (some (.int (iI 0)))) (MR pre 1 amountN amountD momentN momentD epsilonN epsilonD firstFacts firstN firstD wishes wants wantN wantD actions needs needTime needOf needHow needN needD changes changeTime changeOf changeHow changeN changeD lastOf lastN lastD steps stepAction startN startD lengthN lengthD rows row tried triedAction triedRows triedRow times unit facts numN numD oldFacts oldN oldD point judged fault faultPoint toldFacts toldN toldD outN outD pointN pointD gone now leastN leastD greatestN greatestD events post) := by
  refine Cg.of (Nat.le_of_ble_eq_true rfl) ?_
  change Rg _ _ _ _ 0 [(0, .ref 168), (1, .int (iI s))] [] _ _ _
  refine Rg.step 1 F_Mo_done_0 rfl (fun _ => rfl) ?_
  refine Rg.step 2 F_Mo_done_1 rfl (fun _ => rfl) ?_
  refine Rg.step 3 F_Mo_done_2 rfl (fun _ => rfl) ?_
  refine Rg.step 4 F_Mo_done_3 rfl (fun _ => rfl) ?_
  refine Rg.getf 7 F_Mo_done_4 rfl rF_26_242 (gM hp) rfl ?_
  refine Rg.step 8 F_Mo_done_7 rfl (fun _ => rfl) ?_
  refine Rg.subI 9 F_Mo_done_8 rfl ?_
  refine Rg.call 12 F_Mo_done_9 rfl (one_S (by decide +kernel) rM_26_200 (by decide) (by simp) rfl rfl) (Nat.le_of_ble_eq_true rfl) (Cg.any (c_Mo_in (by omega) (by omega) (by omega))) ?_
  refine Rg.ifeqP 19 15 F_Mo_done_12 rfl rfl (fun _ => ?_) (fun h12 => by omega)
  refine Rg.step 20 F_Mo_done_19 rfl (fun _ => rfl) ?_
  refine Rg.put 23 F_Mo_done_20 rfl rF_26_178 (gM hp) (by decide) (Nat.le_of_ble_eq_true rfl) (Or.inl rfl) rfl (sM_code hp) ?_
  refine Rg.step 24 F_Mo_done_23 rfl (fun _ => rfl) ?_
  refine Rg.getf 27 F_Mo_done_24 rfl rF_26_178 (gM hp) rfl ?_
  refine Rg.ifle 34 30 F_Mo_done_27 rfl rfl (fun h27 => absurd h27 (by decide)) (fun _ => ?_)
  refine Rg.step 31 F_Mo_done_30 rfl (fun _ => rfl) ?_
  refine Rg.step 40 F_Mo_done_31 rfl (fun _ => rfl) ?_
  exact Rg.retI F_Mo_done_40 rfl rfl rfl
theorem c_Mo_at {d : Nat}  (hp : pre.length = 168) {k : Int} (wR : 0 ≤ rows ∧ rows ≤ 24) (b_0 : -2147483648 ≤ k ∧ k < 2147483648) (h : 0 ≤ k ∧ k ≤ rows - 1) : Cg false (d + 1) m_Mo_at [.ref 168, .int (iI k)] (MR pre code amountN amountD momentN momentD epsilonN epsilonD firstFacts firstN firstD wishes wants wantN wantD actions needs needTime needOf needHow needN needD changes changeTime changeOf changeHow changeN changeD lastOf lastN lastD steps stepAction startN startD lengthN lengthD rows row tried triedAction triedRows triedRow times unit facts numN numD oldFacts oldN oldD point judged fault faultPoint toldFacts toldN toldD outN outD pointN pointD gone now leastN leastD greatestN greatestD events post) (.inl (some (.int (iI (row k))))) (MR pre 0 amountN amountD momentN momentD epsilonN epsilonD firstFacts firstN firstD wishes wants wantN wantD actions needs needTime needOf needHow needN needD changes changeTime changeOf changeHow changeN changeD lastOf lastN lastD steps stepAction startN startD lengthN lengthD rows row tried triedAction triedRows triedRow times unit facts numN numD oldFacts oldN oldD point judged fault faultPoint toldFacts toldN toldD outN outD pointN pointD gone now leastN leastD greatestN greatestD events post) := by
  refine Cg.of (Nat.le_of_ble_eq_true rfl) ?_
  change Rg _ _ _ _ 0 [(0, .ref 168), (1, .int (iI k))] [] _ _ _
  refine Rg.step 1 F_Mo_at_0 rfl (fun _ => rfl) ?_
  refine Rg.step 2 F_Mo_at_1 rfl (fun _ => rfl) ?_
  refine Rg.put 5 F_Mo_at_2 rfl rF_26_178 (gM hp) (by decide) (Nat.le_of_ble_eq_true rfl) (Or.inl rfl) rfl (sM_code hp) ?_
  refine Rg.step 6 F_Mo_at_5 rfl (fun _ => rfl) ?_
  refine Rg.step 7 F_Mo_at_6 rfl (fun _ => rfl) ?_
  refine Rg.step 8 F_Mo_at_7 rfl (fun _ => rfl) ?_
  refine Rg.getf 11 F_Mo_at_8 rfl rF_26_245 (gM hp) rfl ?_
  refine Rg.step 12 F_Mo_at_11 rfl (fun _ => rfl) ?_
  refine Rg.subI 13 F_Mo_at_12 rfl ?_
  refine Rg.call 16 F_Mo_at_13 rfl (one_S (by decide +kernel) rM_26_200 (by decide) (by simp) rfl rfl) (Nat.le_of_ble_eq_true rfl) (Cg.any (c_Mo_in (by omega) (by omega) (by omega))) ?_
  refine Rg.ifeqP 28 19 F_Mo_at_16 rfl rfl (fun h16 => by omega) (fun _ => ?_)
  refine Rg.step 20 F_Mo_at_19 rfl (fun _ => rfl) ?_
  refine Rg.getf 23 F_Mo_at_20 rfl rF_26_108 (gM hp) rfl ?_
  refine Rg.step 24 F_Mo_at_23 rfl (fun _ => rfl) ?_
  refine Rg.ild 25 F_Mo_at_24 rfl (gR_row hp) (by omega) (by decide) ?_
  refine Rg.step 29 F_Mo_at_25 rfl (fun _ => rfl) ?_
  exact Rg.retI F_Mo_at_29 rfl rfl rfl
theorem c_Mo_at0 {d : Nat}  (hp : pre.length = 168) {k : Int} (wR : 0 ≤ rows ∧ rows ≤ 24) (b_0 : -2147483648 ≤ k ∧ k < 2147483648) (h : ¬ (0 ≤ k ∧ k ≤ rows - 1)) : Cg false (d + 1) m_Mo_at [.ref 168, .int (iI k)] (MR pre code amountN amountD momentN momentD epsilonN epsilonD firstFacts firstN firstD wishes wants wantN wantD actions needs needTime needOf needHow needN needD changes changeTime changeOf changeHow changeN changeD lastOf lastN lastD steps stepAction startN startD lengthN lengthD rows row tried triedAction triedRows triedRow times unit facts numN numD oldFacts oldN oldD point judged fault faultPoint toldFacts toldN toldD outN outD pointN pointD gone now leastN leastD greatestN greatestD events post) (.inl (some (.int (iI (-1))))) (MR pre 0 amountN amountD momentN momentD epsilonN epsilonD firstFacts firstN firstD wishes wants wantN wantD actions needs needTime needOf needHow needN needD changes changeTime changeOf changeHow changeN changeD lastOf lastN lastD steps stepAction startN startD lengthN lengthD rows row tried triedAction triedRows triedRow times unit facts numN numD oldFacts oldN oldD point judged fault faultPoint toldFacts toldN toldD outN outD pointN pointD gone now leastN leastD greatestN greatestD events post) := by
  refine Cg.of (Nat.le_of_ble_eq_true rfl) ?_
  change Rg _ _ _ _ 0 [(0, .ref 168), (1, .int (iI k))] [] _ _ _
  refine Rg.step 1 F_Mo_at_0 rfl (fun _ => rfl) ?_
  refine Rg.step 2 F_Mo_at_1 rfl (fun _ => rfl) ?_
  refine Rg.put 5 F_Mo_at_2 rfl rF_26_178 (gM hp) (by decide) (Nat.le_of_ble_eq_true rfl) (Or.inl rfl) rfl (sM_code hp) ?_
  refine Rg.step 6 F_Mo_at_5 rfl (fun _ => rfl) ?_
  refine Rg.step 7 F_Mo_at_6 rfl (fun _ => rfl) ?_
  refine Rg.step 8 F_Mo_at_7 rfl (fun _ => rfl) ?_
  refine Rg.getf 11 F_Mo_at_8 rfl rF_26_245 (gM hp) rfl ?_
  refine Rg.step 12 F_Mo_at_11 rfl (fun _ => rfl) ?_
  refine Rg.subI 13 F_Mo_at_12 rfl ?_
  refine Rg.call 16 F_Mo_at_13 rfl (one_S (by decide +kernel) rM_26_200 (by decide) (by simp) rfl rfl) (Nat.le_of_ble_eq_true rfl) (Cg.any (c_Mo_in (by omega) (by omega) (by omega))) ?_
  refine Rg.ifeqP 28 19 F_Mo_at_16 rfl rfl (fun _ => ?_) (fun h16 => by omega)
  refine Rg.step 29 F_Mo_at_28 rfl (fun _ => rfl) ?_
  exact Rg.retI F_Mo_at_29 rfl rfl rfl
theorem c_Mo_told_0N {d : Nat}  (hp : pre.length = 168) {ab : Prop} {i : Int} (hab : ab) (wS : 0 ≤ steps ∧ steps ≤ 12) (wJ : judged = 0 ∨ judged = 1) (b_0 : -2147483648 ≤ i ∧ i < 2147483648) (h : 0 ≤ i ∧ i ≤ steps - 1) : Cg false (d + 2) m_Mo_told [.ref 168, .int (iI 0), .int (iI i), .int (bP ab)] (MR pre code amountN amountD momentN momentD epsilonN epsilonD firstFacts firstN firstD wishes wants wantN wantD actions needs needTime needOf needHow needN needD changes changeTime changeOf changeHow changeN changeD lastOf lastN lastD steps stepAction startN startD lengthN lengthD rows row tried triedAction triedRows triedRow times unit facts numN numD oldFacts oldN oldD point judged fault faultPoint toldFacts toldN toldD outN outD pointN pointD gone now leastN leastD greatestN greatestD events post) (.inl (some (.long (lI (startN i))))) (MR pre 0 amountN amountD momentN momentD epsilonN epsilonD firstFacts firstN firstD wishes wants wantN wantD actions needs needTime needOf needHow needN needD changes changeTime changeOf changeHow changeN changeD lastOf lastN lastD steps stepAction startN startD lengthN lengthD rows row tried triedAction triedRows triedRow times unit facts numN numD oldFacts oldN oldD point judged fault faultPoint toldFacts toldN toldD outN outD pointN pointD gone now leastN leastD greatestN greatestD events post) := by
  refine Cg.of (Nat.le_of_ble_eq_true rfl) ?_
  change Rg _ _ _ _ 0 [(0, .ref 168), (1, .int (iI 0)), (2, .int (iI i)), (3, .int (bP ab))] [] _ _ _
  refine Rg.step 1 F_Mo_told_0 rfl (fun _ => rfl) ?_
  refine Rg.step 2 F_Mo_told_1 rfl (fun _ => rfl) ?_
  refine Rg.step 3 F_Mo_told_2 rfl (fun _ => rfl) ?_
  refine Rg.step 4 F_Mo_told_3 rfl (fun _ => rfl) ?_
  refine Rg.call 7 F_Mo_told_4 rfl (one_S (by decide +kernel) rM_26_200 (by decide) (by simp) rfl rfl) (Nat.le_of_ble_eq_true rfl) (Cg.any (c_Mo_in (by omega) (by omega) (by omega))) ?_
  refine Rg.ifneP 14 10 F_Mo_told_7 rfl rfl (fun _ => ?_) (fun h7 => by omega)
  refine Rg.step 15 F_Mo_told_14 rfl (fun _ => rfl) ?_
  refine Rg.step 16 F_Mo_told_15 rfl (fun _ => rfl) ?_
  refine Rg.icneI 34 19 F_Mo_told_16 rfl rfl (by omega) (by omega) (fun _ => ?_) (fun h16 => by omega)
  refine Rg.step 35 F_Mo_told_34 rfl (fun _ => rfl) ?_
  refine Rg.step 36 F_Mo_told_35 rfl (fun _ => rfl) ?_
  refine Rg.step 37 F_Mo_told_36 rfl (fun _ => rfl) ?_
  refine Rg.getf 40 F_Mo_told_37 rfl rF_26_242 (gM hp) rfl ?_
  refine Rg.step 41 F_Mo_told_40 rfl (fun _ => rfl) ?_
  refine Rg.subI 42 F_Mo_told_41 rfl ?_
  refine Rg.call 45 F_Mo_told_42 rfl (one_S (by decide +kernel) rM_26_200 (by decide) (by simp) rfl rfl) (Nat.le_of_ble_eq_true rfl) (Cg.any (c_Mo_in (by omega) (by omega) (by omega))) ?_
  refine Rg.ifeqP 52 48 F_Mo_told_45 rfl rfl (fun h45 => by omega) (fun _ => ?_)
  refine Rg.step 49 F_Mo_told_48 rfl (fun _ => rfl) ?_
  refine Rg.step 53 F_Mo_told_49 rfl (fun _ => rfl) ?_
  refine Rg.put 56 F_Mo_told_53 rfl rF_26_178 (gM hp) (by decide) (Nat.le_of_ble_eq_true rfl) (Or.inl rfl) rfl (sM_code hp) ?_
  refine Rg.step 57 F_Mo_told_56 rfl (fun _ => rfl) ?_
  refine Rg.getf 60 F_Mo_told_57 rfl rF_26_178 (gM hp) rfl ?_
  refine Rg.ifle 65 63 F_Mo_told_60 rfl rfl (fun _ => ?_) (fun h60 => absurd h60 (by decide))
  refine Rg.step 66 F_Mo_told_65 rfl (fun _ => rfl) ?_
  refine Rg.ifneI 89 69 F_Mo_told_66 rfl rfl (by omega) (fun h66 => by omega) (fun _ => ?_)
  refine Rg.step 70 F_Mo_told_69 rfl (fun _ => rfl) ?_
  refine Rg.ifeqP 82 73 F_Mo_told_70 rfl rfl (fun h70 => absurd hab h70) (fun _ => ?_)
  refine Rg.step 74 F_Mo_told_73 rfl (fun _ => rfl) ?_
  refine Rg.getf 77 F_Mo_told_74 rfl rF_26_96 (gM hp) rfl ?_
  refine Rg.step 78 F_Mo_told_77 rfl (fun _ => rfl) ?_
  refine Rg.lld 79 F_Mo_told_78 rfl (gR_startN hp) (by omega) (by decide) ?_
  refine Rg.step 88 F_Mo_told_79 rfl (fun _ => rfl) ?_
  exact Rg.retL F_Mo_told_88 rfl rfl rfl
theorem c_Mo_above_0 {d : Nat}  (hp : pre.length = 168) {i : Int} (wS : 0 ≤ steps ∧ steps ≤ 12) (wJ : judged = 0 ∨ judged = 1) (b_0 : -2147483648 ≤ i ∧ i < 2147483648) (h : 0 ≤ i ∧ i ≤ steps - 1) : Cg false (d + 3) m_Mo_above [.ref 168, .int (iI 0), .int (iI i)] (MR pre code amountN amountD momentN momentD epsilonN epsilonD firstFacts firstN firstD wishes wants wantN wantD actions needs needTime needOf needHow needN needD changes changeTime changeOf changeHow changeN changeD lastOf lastN lastD steps stepAction startN startD lengthN lengthD rows row tried triedAction triedRows triedRow times unit facts numN numD oldFacts oldN oldD point judged fault faultPoint toldFacts toldN toldD outN outD pointN pointD gone now leastN leastD greatestN greatestD events post) (.inl (some (.long (lI (startN i))))) (MR pre 0 amountN amountD momentN momentD epsilonN epsilonD firstFacts firstN firstD wishes wants wantN wantD actions needs needTime needOf needHow needN needD changes changeTime changeOf changeHow changeN changeD lastOf lastN lastD steps stepAction startN startD lengthN lengthD rows row tried triedAction triedRows triedRow times unit facts numN numD oldFacts oldN oldD point judged fault faultPoint toldFacts toldN toldD outN outD pointN pointD gone now leastN leastD greatestN greatestD events post) := by
  refine Cg.of (Nat.le_of_ble_eq_true rfl) ?_
  change Rg _ _ _ _ 0 [(0, .ref 168), (1, .int (iI 0)), (2, .int (iI i))] [] _ _ _
  refine Rg.step 1 F_Mo_above_0 rfl (fun _ => rfl) ?_
  refine Rg.step 2 F_Mo_above_1 rfl (fun _ => rfl) ?_
  refine Rg.step 3 F_Mo_above_2 rfl (fun _ => rfl) ?_
  refine Rg.cP1 (B := True) 4 F_Mo_above_3 rfl trivial ?_
  refine Rg.call 7 F_Mo_above_4 rfl (one_V rM_26_397 (by decide) (by simp) rfl rfl (gM hp) rfl) (Nat.le_of_ble_eq_true rfl) (c_Mo_told_0N hp trivial wS wJ (by omega) h) ?_
  exact Rg.retL F_Mo_above_7 rfl rfl rfl
theorem c_Mo_told_1N {d : Nat}  (hp : pre.length = 168) {ab : Prop} {i : Int} (hab : ab) (wS : 0 ≤ steps ∧ steps ≤ 12) (wJ : judged = 0 ∨ judged = 1) (b_0 : -2147483648 ≤ i ∧ i < 2147483648) (h : 0 ≤ i ∧ i ≤ steps - 1) : Cg false (d + 2) m_Mo_told [.ref 168, .int (iI 1), .int (iI i), .int (bP ab)] (MR pre code amountN amountD momentN momentD epsilonN epsilonD firstFacts firstN firstD wishes wants wantN wantD actions needs needTime needOf needHow needN needD changes changeTime changeOf changeHow changeN changeD lastOf lastN lastD steps stepAction startN startD lengthN lengthD rows row tried triedAction triedRows triedRow times unit facts numN numD oldFacts oldN oldD point judged fault faultPoint toldFacts toldN toldD outN outD pointN pointD gone now leastN leastD greatestN greatestD events post) (.inl (some (.long (lI (lengthN i))))) (MR pre 0 amountN amountD momentN momentD epsilonN epsilonD firstFacts firstN firstD wishes wants wantN wantD actions needs needTime needOf needHow needN needD changes changeTime changeOf changeHow changeN changeD lastOf lastN lastD steps stepAction startN startD lengthN lengthD rows row tried triedAction triedRows triedRow times unit facts numN numD oldFacts oldN oldD point judged fault faultPoint toldFacts toldN toldD outN outD pointN pointD gone now leastN leastD greatestN greatestD events post) := by
  refine Cg.of (Nat.le_of_ble_eq_true rfl) ?_
  change Rg _ _ _ _ 0 [(0, .ref 168), (1, .int (iI 1)), (2, .int (iI i)), (3, .int (bP ab))] [] _ _ _
  refine Rg.step 1 F_Mo_told_0 rfl (fun _ => rfl) ?_
  refine Rg.step 2 F_Mo_told_1 rfl (fun _ => rfl) ?_
  refine Rg.step 3 F_Mo_told_2 rfl (fun _ => rfl) ?_
  refine Rg.step 4 F_Mo_told_3 rfl (fun _ => rfl) ?_
  refine Rg.call 7 F_Mo_told_4 rfl (one_S (by decide +kernel) rM_26_200 (by decide) (by simp) rfl rfl) (Nat.le_of_ble_eq_true rfl) (Cg.any (c_Mo_in (by omega) (by omega) (by omega))) ?_
  refine Rg.ifneP 14 10 F_Mo_told_7 rfl rfl (fun _ => ?_) (fun h7 => by omega)
  refine Rg.step 15 F_Mo_told_14 rfl (fun _ => rfl) ?_
  refine Rg.step 16 F_Mo_told_15 rfl (fun _ => rfl) ?_
  refine Rg.icneI 34 19 F_Mo_told_16 rfl rfl (by omega) (by omega) (fun _ => ?_) (fun h16 => by omega)
  refine Rg.step 35 F_Mo_told_34 rfl (fun _ => rfl) ?_
  refine Rg.step 36 F_Mo_told_35 rfl (fun _ => rfl) ?_
  refine Rg.step 37 F_Mo_told_36 rfl (fun _ => rfl) ?_
  refine Rg.getf 40 F_Mo_told_37 rfl rF_26_242 (gM hp) rfl ?_
  refine Rg.step 41 F_Mo_told_40 rfl (fun _ => rfl) ?_
  refine Rg.subI 42 F_Mo_told_41 rfl ?_
  refine Rg.call 45 F_Mo_told_42 rfl (one_S (by decide +kernel) rM_26_200 (by decide) (by simp) rfl rfl) (Nat.le_of_ble_eq_true rfl) (Cg.any (c_Mo_in (by omega) (by omega) (by omega))) ?_
  refine Rg.ifeqP 52 48 F_Mo_told_45 rfl rfl (fun h45 => by omega) (fun _ => ?_)
  refine Rg.step 49 F_Mo_told_48 rfl (fun _ => rfl) ?_
  refine Rg.step 53 F_Mo_told_49 rfl (fun _ => rfl) ?_
  refine Rg.put 56 F_Mo_told_53 rfl rF_26_178 (gM hp) (by decide) (Nat.le_of_ble_eq_true rfl) (Or.inl rfl) rfl (sM_code hp) ?_
  refine Rg.step 57 F_Mo_told_56 rfl (fun _ => rfl) ?_
  refine Rg.getf 60 F_Mo_told_57 rfl rF_26_178 (gM hp) rfl ?_
  refine Rg.ifle 65 63 F_Mo_told_60 rfl rfl (fun _ => ?_) (fun h60 => absurd h60 (by decide))
  refine Rg.step 66 F_Mo_told_65 rfl (fun _ => rfl) ?_
  refine Rg.ifneI 89 69 F_Mo_told_66 rfl rfl (by omega) (fun _ => ?_) (fun h66 => by omega)
  refine Rg.step 90 F_Mo_told_89 rfl (fun _ => rfl) ?_
  refine Rg.step 91 F_Mo_told_90 rfl (fun _ => rfl) ?_
  refine Rg.icneI 114 94 F_Mo_told_91 rfl rfl (by omega) (by omega) (fun h91 => by omega) (fun _ => ?_)
  refine Rg.step 95 F_Mo_told_94 rfl (fun _ => rfl) ?_
  refine Rg.ifeqP 107 98 F_Mo_told_95 rfl rfl (fun h95 => absurd hab h95) (fun _ => ?_)
  refine Rg.step 99 F_Mo_told_98 rfl (fun _ => rfl) ?_
  refine Rg.getf 102 F_Mo_told_99 rfl rF_26_102 (gM hp) rfl ?_
  refine Rg.step 103 F_Mo_told_102 rfl (fun _ => rfl) ?_
  refine Rg.lld 104 F_Mo_told_103 rfl (gR_lengthN hp) (by omega) (by decide) ?_
  refine Rg.step 113 F_Mo_told_104 rfl (fun _ => rfl) ?_
  exact Rg.retL F_Mo_told_113 rfl rfl rfl
theorem c_Mo_above_1 {d : Nat}  (hp : pre.length = 168) {i : Int} (wS : 0 ≤ steps ∧ steps ≤ 12) (wJ : judged = 0 ∨ judged = 1) (b_0 : -2147483648 ≤ i ∧ i < 2147483648) (h : 0 ≤ i ∧ i ≤ steps - 1) : Cg false (d + 3) m_Mo_above [.ref 168, .int (iI 1), .int (iI i)] (MR pre code amountN amountD momentN momentD epsilonN epsilonD firstFacts firstN firstD wishes wants wantN wantD actions needs needTime needOf needHow needN needD changes changeTime changeOf changeHow changeN changeD lastOf lastN lastD steps stepAction startN startD lengthN lengthD rows row tried triedAction triedRows triedRow times unit facts numN numD oldFacts oldN oldD point judged fault faultPoint toldFacts toldN toldD outN outD pointN pointD gone now leastN leastD greatestN greatestD events post) (.inl (some (.long (lI (lengthN i))))) (MR pre 0 amountN amountD momentN momentD epsilonN epsilonD firstFacts firstN firstD wishes wants wantN wantD actions needs needTime needOf needHow needN needD changes changeTime changeOf changeHow changeN changeD lastOf lastN lastD steps stepAction startN startD lengthN lengthD rows row tried triedAction triedRows triedRow times unit facts numN numD oldFacts oldN oldD point judged fault faultPoint toldFacts toldN toldD outN outD pointN pointD gone now leastN leastD greatestN greatestD events post) := by
  refine Cg.of (Nat.le_of_ble_eq_true rfl) ?_
  change Rg _ _ _ _ 0 [(0, .ref 168), (1, .int (iI 1)), (2, .int (iI i))] [] _ _ _
  refine Rg.step 1 F_Mo_above_0 rfl (fun _ => rfl) ?_
  refine Rg.step 2 F_Mo_above_1 rfl (fun _ => rfl) ?_
  refine Rg.step 3 F_Mo_above_2 rfl (fun _ => rfl) ?_
  refine Rg.cP1 (B := True) 4 F_Mo_above_3 rfl trivial ?_
  refine Rg.call 7 F_Mo_above_4 rfl (one_V rM_26_397 (by decide) (by simp) rfl rfl (gM hp) rfl) (Nat.le_of_ble_eq_true rfl) (c_Mo_told_1N hp trivial wS wJ (by omega) h) ?_
  exact Rg.retL F_Mo_above_7 rfl rfl rfl
theorem c_Mo_told_2N {d : Nat}  (hp : pre.length = 168) {ab : Prop} {i : Int} (hab : ab) (wS : 0 ≤ steps ∧ steps ≤ 12) (wJ : judged = 0 ∨ judged = 1) (b_0 : -2147483648 ≤ i ∧ i < 2147483648) (h : 0 ≤ i ∧ i ≤ 7) (hj : judged = 0) : Cg false (d + 2) m_Mo_told [.ref 168, .int (iI 2), .int (iI i), .int (bP ab)] (MR pre code amountN amountD momentN momentD epsilonN epsilonD firstFacts firstN firstD wishes wants wantN wantD actions needs needTime needOf needHow needN needD changes changeTime changeOf changeHow changeN changeD lastOf lastN lastD steps stepAction startN startD lengthN lengthD rows row tried triedAction triedRows triedRow times unit facts numN numD oldFacts oldN oldD point judged fault faultPoint toldFacts toldN toldD outN outD pointN pointD gone now leastN leastD greatestN greatestD events post) (.inl (some (.long (lI (firstN i))))) (MR pre 0 amountN amountD momentN momentD epsilonN epsilonD firstFacts firstN firstD wishes wants wantN wantD actions needs needTime needOf needHow needN needD changes changeTime changeOf changeHow changeN changeD lastOf lastN lastD steps stepAction startN startD lengthN lengthD rows row tried triedAction triedRows triedRow times unit facts numN numD oldFacts oldN oldD point judged fault faultPoint toldFacts toldN toldD outN outD pointN pointD gone now leastN leastD greatestN greatestD events post) := by
  refine Cg.of (Nat.le_of_ble_eq_true rfl) ?_
  change Rg _ _ _ _ 0 [(0, .ref 168), (1, .int (iI 2)), (2, .int (iI i)), (3, .int (bP ab))] [] _ _ _
  refine Rg.step 1 F_Mo_told_0 rfl (fun _ => rfl) ?_
  refine Rg.step 2 F_Mo_told_1 rfl (fun _ => rfl) ?_
  refine Rg.step 3 F_Mo_told_2 rfl (fun _ => rfl) ?_
  refine Rg.step 4 F_Mo_told_3 rfl (fun _ => rfl) ?_
  refine Rg.call 7 F_Mo_told_4 rfl (one_S (by decide +kernel) rM_26_200 (by decide) (by simp) rfl rfl) (Nat.le_of_ble_eq_true rfl) (Cg.any (c_Mo_in (by omega) (by omega) (by omega))) ?_
  refine Rg.ifneP 14 10 F_Mo_told_7 rfl rfl (fun _ => ?_) (fun h7 => by omega)
  refine Rg.step 15 F_Mo_told_14 rfl (fun _ => rfl) ?_
  refine Rg.step 16 F_Mo_told_15 rfl (fun _ => rfl) ?_
  refine Rg.icneI 34 19 F_Mo_told_16 rfl rfl (by omega) (by omega) (fun h16 => by omega) (fun _ => ?_)
  refine Rg.step 20 F_Mo_told_19 rfl (fun _ => rfl) ?_
  refine Rg.call 23 F_Mo_told_20 rfl (one_S (by decide +kernel) rM_26_225 (by decide) (by simp) rfl rfl) (Nat.le_of_ble_eq_true rfl) (Cg.any (c_Mo_isNumber (by omega))) ?_
  refine Rg.ifeqP 30 26 F_Mo_told_23 rfl rfl (fun h23 => by omega) (fun _ => ?_)
  refine Rg.step 27 F_Mo_told_26 rfl (fun _ => rfl) ?_
  refine Rg.step 53 F_Mo_told_27 rfl (fun _ => rfl) ?_
  refine Rg.put 56 F_Mo_told_53 rfl rF_26_178 (gM hp) (by decide) (Nat.le_of_ble_eq_true rfl) (Or.inl rfl) rfl (sM_code hp) ?_
  refine Rg.step 57 F_Mo_told_56 rfl (fun _ => rfl) ?_
  refine Rg.getf 60 F_Mo_told_57 rfl rF_26_178 (gM hp) rfl ?_
  refine Rg.ifle 65 63 F_Mo_told_60 rfl rfl (fun _ => ?_) (fun h60 => absurd h60 (by decide))
  refine Rg.step 66 F_Mo_told_65 rfl (fun _ => rfl) ?_
  refine Rg.ifneI 89 69 F_Mo_told_66 rfl rfl (by omega) (fun _ => ?_) (fun h66 => by omega)
  refine Rg.step 90 F_Mo_told_89 rfl (fun _ => rfl) ?_
  refine Rg.step 91 F_Mo_told_90 rfl (fun _ => rfl) ?_
  refine Rg.icneI 114 94 F_Mo_told_91 rfl rfl (by omega) (by omega) (fun _ => ?_) (fun h91 => by omega)
  refine Rg.step 115 F_Mo_told_114 rfl (fun _ => rfl) ?_
  refine Rg.getf 118 F_Mo_told_115 rfl rF_26_320 (gM hp) rfl ?_
  refine Rg.ifneI 141 121 F_Mo_told_118 rfl rfl (by omega) (fun h118 => by omega) (fun _ => ?_)
  refine Rg.step 122 F_Mo_told_121 rfl (fun _ => rfl) ?_
  refine Rg.ifeqP 134 125 F_Mo_told_122 rfl rfl (fun h122 => absurd hab h122) (fun _ => ?_)
  refine Rg.step 126 F_Mo_told_125 rfl (fun _ => rfl) ?_
  refine Rg.getf 129 F_Mo_told_126 rfl rF_26_28 (gM hp) rfl ?_
  refine Rg.step 130 F_Mo_told_129 rfl (fun _ => rfl) ?_
  refine Rg.lld 131 F_Mo_told_130 rfl (gR_firstN hp) (by omega) (by decide) ?_
  refine Rg.step 140 F_Mo_told_131 rfl (fun _ => rfl) ?_
  exact Rg.retL F_Mo_told_140 rfl rfl rfl
theorem c_Mo_above_2 {d : Nat}  (hp : pre.length = 168) {i : Int} (wS : 0 ≤ steps ∧ steps ≤ 12) (wJ : judged = 0 ∨ judged = 1) (b_0 : -2147483648 ≤ i ∧ i < 2147483648) (h : 0 ≤ i ∧ i ≤ 7) (hj : judged = 0) : Cg false (d + 3) m_Mo_above [.ref 168, .int (iI 2), .int (iI i)] (MR pre code amountN amountD momentN momentD epsilonN epsilonD firstFacts firstN firstD wishes wants wantN wantD actions needs needTime needOf needHow needN needD changes changeTime changeOf changeHow changeN changeD lastOf lastN lastD steps stepAction startN startD lengthN lengthD rows row tried triedAction triedRows triedRow times unit facts numN numD oldFacts oldN oldD point judged fault faultPoint toldFacts toldN toldD outN outD pointN pointD gone now leastN leastD greatestN greatestD events post) (.inl (some (.long (lI (firstN i))))) (MR pre 0 amountN amountD momentN momentD epsilonN epsilonD firstFacts firstN firstD wishes wants wantN wantD actions needs needTime needOf needHow needN needD changes changeTime changeOf changeHow changeN changeD lastOf lastN lastD steps stepAction startN startD lengthN lengthD rows row tried triedAction triedRows triedRow times unit facts numN numD oldFacts oldN oldD point judged fault faultPoint toldFacts toldN toldD outN outD pointN pointD gone now leastN leastD greatestN greatestD events post) := by
  refine Cg.of (Nat.le_of_ble_eq_true rfl) ?_
  change Rg _ _ _ _ 0 [(0, .ref 168), (1, .int (iI 2)), (2, .int (iI i))] [] _ _ _
  refine Rg.step 1 F_Mo_above_0 rfl (fun _ => rfl) ?_
  refine Rg.step 2 F_Mo_above_1 rfl (fun _ => rfl) ?_
  refine Rg.step 3 F_Mo_above_2 rfl (fun _ => rfl) ?_
  refine Rg.cP1 (B := True) 4 F_Mo_above_3 rfl trivial ?_
  refine Rg.call 7 F_Mo_above_4 rfl (one_V rM_26_397 (by decide) (by simp) rfl rfl (gM hp) rfl) (Nat.le_of_ble_eq_true rfl) (c_Mo_told_2N hp trivial wS wJ (by omega) h hj) ?_
  exact Rg.retL F_Mo_above_7 rfl rfl rfl
theorem c_Mo_told_2tN {d : Nat}  (hp : pre.length = 168) {ab : Prop} {i : Int} (hab : ab) (wS : 0 ≤ steps ∧ steps ≤ 12) (wJ : judged = 0 ∨ judged = 1) (b_0 : -2147483648 ≤ i ∧ i < 2147483648) (h : 0 ≤ i ∧ i ≤ 7) (hj : judged = 1) : Cg false (d + 2) m_Mo_told [.ref 168, .int (iI 2), .int (iI i), .int (bP ab)] (MR pre code amountN amountD momentN momentD epsilonN epsilonD firstFacts firstN firstD wishes wants wantN wantD actions needs needTime needOf needHow needN needD changes changeTime changeOf changeHow changeN changeD lastOf lastN lastD steps stepAction startN startD lengthN lengthD rows row tried triedAction triedRows triedRow times unit facts numN numD oldFacts oldN oldD point judged fault faultPoint toldFacts toldN toldD outN outD pointN pointD gone now leastN leastD greatestN greatestD events post) (.inl (some (.long (lI (toldN i))))) (MR pre 0 amountN amountD momentN momentD epsilonN epsilonD firstFacts firstN firstD wishes wants wantN wantD actions needs needTime needOf needHow needN needD changes changeTime changeOf changeHow changeN changeD lastOf lastN lastD steps stepAction startN startD lengthN lengthD rows row tried triedAction triedRows triedRow times unit facts numN numD oldFacts oldN oldD point judged fault faultPoint toldFacts toldN toldD outN outD pointN pointD gone now leastN leastD greatestN greatestD events post) := by
  refine Cg.of (Nat.le_of_ble_eq_true rfl) ?_
  change Rg _ _ _ _ 0 [(0, .ref 168), (1, .int (iI 2)), (2, .int (iI i)), (3, .int (bP ab))] [] _ _ _
  refine Rg.step 1 F_Mo_told_0 rfl (fun _ => rfl) ?_
  refine Rg.step 2 F_Mo_told_1 rfl (fun _ => rfl) ?_
  refine Rg.step 3 F_Mo_told_2 rfl (fun _ => rfl) ?_
  refine Rg.step 4 F_Mo_told_3 rfl (fun _ => rfl) ?_
  refine Rg.call 7 F_Mo_told_4 rfl (one_S (by decide +kernel) rM_26_200 (by decide) (by simp) rfl rfl) (Nat.le_of_ble_eq_true rfl) (Cg.any (c_Mo_in (by omega) (by omega) (by omega))) ?_
  refine Rg.ifneP 14 10 F_Mo_told_7 rfl rfl (fun _ => ?_) (fun h7 => by omega)
  refine Rg.step 15 F_Mo_told_14 rfl (fun _ => rfl) ?_
  refine Rg.step 16 F_Mo_told_15 rfl (fun _ => rfl) ?_
  refine Rg.icneI 34 19 F_Mo_told_16 rfl rfl (by omega) (by omega) (fun h16 => by omega) (fun _ => ?_)
  refine Rg.step 20 F_Mo_told_19 rfl (fun _ => rfl) ?_
  refine Rg.call 23 F_Mo_told_20 rfl (one_S (by decide +kernel) rM_26_225 (by decide) (by simp) rfl rfl) (Nat.le_of_ble_eq_true rfl) (Cg.any (c_Mo_isNumber (by omega))) ?_
  refine Rg.ifeqP 30 26 F_Mo_told_23 rfl rfl (fun h23 => by omega) (fun _ => ?_)
  refine Rg.step 27 F_Mo_told_26 rfl (fun _ => rfl) ?_
  refine Rg.step 53 F_Mo_told_27 rfl (fun _ => rfl) ?_
  refine Rg.put 56 F_Mo_told_53 rfl rF_26_178 (gM hp) (by decide) (Nat.le_of_ble_eq_true rfl) (Or.inl rfl) rfl (sM_code hp) ?_
  refine Rg.step 57 F_Mo_told_56 rfl (fun _ => rfl) ?_
  refine Rg.getf 60 F_Mo_told_57 rfl rF_26_178 (gM hp) rfl ?_
  refine Rg.ifle 65 63 F_Mo_told_60 rfl rfl (fun _ => ?_) (fun h60 => absurd h60 (by decide))
  refine Rg.step 66 F_Mo_told_65 rfl (fun _ => rfl) ?_
  refine Rg.ifneI 89 69 F_Mo_told_66 rfl rfl (by omega) (fun _ => ?_) (fun h66 => by omega)
  refine Rg.step 90 F_Mo_told_89 rfl (fun _ => rfl) ?_
  refine Rg.step 91 F_Mo_told_90 rfl (fun _ => rfl) ?_
  refine Rg.icneI 114 94 F_Mo_told_91 rfl rfl (by omega) (by omega) (fun _ => ?_) (fun h91 => by omega)
  refine Rg.step 115 F_Mo_told_114 rfl (fun _ => rfl) ?_
  refine Rg.getf 118 F_Mo_told_115 rfl rF_26_320 (gM hp) rfl ?_
  refine Rg.ifneI 141 121 F_Mo_told_118 rfl rfl (by omega) (fun _ => ?_) (fun h118 => by omega)
  refine Rg.step 142 F_Mo_told_141 rfl (fun _ => rfl) ?_
  refine Rg.ifeqP 154 145 F_Mo_told_142 rfl rfl (fun h142 => absurd hab h142) (fun _ => ?_)
  refine Rg.step 146 F_Mo_told_145 rfl (fun _ => rfl) ?_
  refine Rg.getf 149 F_Mo_told_146 rfl rF_26_145 (gM hp) rfl ?_
  refine Rg.step 150 F_Mo_told_149 rfl (fun _ => rfl) ?_
  refine Rg.lld 151 F_Mo_told_150 rfl (gR_toldN hp) (by omega) (by decide) ?_
  refine Rg.step 160 F_Mo_told_151 rfl (fun _ => rfl) ?_
  exact Rg.retL F_Mo_told_160 rfl rfl rfl
theorem c_Mo_above_2t {d : Nat}  (hp : pre.length = 168) {i : Int} (wS : 0 ≤ steps ∧ steps ≤ 12) (wJ : judged = 0 ∨ judged = 1) (b_0 : -2147483648 ≤ i ∧ i < 2147483648) (h : 0 ≤ i ∧ i ≤ 7) (hj : judged = 1) : Cg false (d + 3) m_Mo_above [.ref 168, .int (iI 2), .int (iI i)] (MR pre code amountN amountD momentN momentD epsilonN epsilonD firstFacts firstN firstD wishes wants wantN wantD actions needs needTime needOf needHow needN needD changes changeTime changeOf changeHow changeN changeD lastOf lastN lastD steps stepAction startN startD lengthN lengthD rows row tried triedAction triedRows triedRow times unit facts numN numD oldFacts oldN oldD point judged fault faultPoint toldFacts toldN toldD outN outD pointN pointD gone now leastN leastD greatestN greatestD events post) (.inl (some (.long (lI (toldN i))))) (MR pre 0 amountN amountD momentN momentD epsilonN epsilonD firstFacts firstN firstD wishes wants wantN wantD actions needs needTime needOf needHow needN needD changes changeTime changeOf changeHow changeN changeD lastOf lastN lastD steps stepAction startN startD lengthN lengthD rows row tried triedAction triedRows triedRow times unit facts numN numD oldFacts oldN oldD point judged fault faultPoint toldFacts toldN toldD outN outD pointN pointD gone now leastN leastD greatestN greatestD events post) := by
  refine Cg.of (Nat.le_of_ble_eq_true rfl) ?_
  change Rg _ _ _ _ 0 [(0, .ref 168), (1, .int (iI 2)), (2, .int (iI i))] [] _ _ _
  refine Rg.step 1 F_Mo_above_0 rfl (fun _ => rfl) ?_
  refine Rg.step 2 F_Mo_above_1 rfl (fun _ => rfl) ?_
  refine Rg.step 3 F_Mo_above_2 rfl (fun _ => rfl) ?_
  refine Rg.cP1 (B := True) 4 F_Mo_above_3 rfl trivial ?_
  refine Rg.call 7 F_Mo_above_4 rfl (one_V rM_26_397 (by decide) (by simp) rfl rfl (gM hp) rfl) (Nat.le_of_ble_eq_true rfl) (c_Mo_told_2tN hp trivial wS wJ (by omega) h hj) ?_
  exact Rg.retL F_Mo_above_7 rfl rfl rfl
theorem c_Mo_told_0D {d : Nat}  (hp : pre.length = 168) {ab : Prop} {i : Int} (hab : ¬ ab) (wS : 0 ≤ steps ∧ steps ≤ 12) (wJ : judged = 0 ∨ judged = 1) (b_0 : -2147483648 ≤ i ∧ i < 2147483648) (h : 0 ≤ i ∧ i ≤ steps - 1) : Cg false (d + 2) m_Mo_told [.ref 168, .int (iI 0), .int (iI i), .int (bP ab)] (MR pre code amountN amountD momentN momentD epsilonN epsilonD firstFacts firstN firstD wishes wants wantN wantD actions needs needTime needOf needHow needN needD changes changeTime changeOf changeHow changeN changeD lastOf lastN lastD steps stepAction startN startD lengthN lengthD rows row tried triedAction triedRows triedRow times unit facts numN numD oldFacts oldN oldD point judged fault faultPoint toldFacts toldN toldD outN outD pointN pointD gone now leastN leastD greatestN greatestD events post) (.inl (some (.long (lI (startD i))))) (MR pre 0 amountN amountD momentN momentD epsilonN epsilonD firstFacts firstN firstD wishes wants wantN wantD actions needs needTime needOf needHow needN needD changes changeTime changeOf changeHow changeN changeD lastOf lastN lastD steps stepAction startN startD lengthN lengthD rows row tried triedAction triedRows triedRow times unit facts numN numD oldFacts oldN oldD point judged fault faultPoint toldFacts toldN toldD outN outD pointN pointD gone now leastN leastD greatestN greatestD events post) := by
  refine Cg.of (Nat.le_of_ble_eq_true rfl) ?_
  change Rg _ _ _ _ 0 [(0, .ref 168), (1, .int (iI 0)), (2, .int (iI i)), (3, .int (bP ab))] [] _ _ _
  refine Rg.step 1 F_Mo_told_0 rfl (fun _ => rfl) ?_
  refine Rg.step 2 F_Mo_told_1 rfl (fun _ => rfl) ?_
  refine Rg.step 3 F_Mo_told_2 rfl (fun _ => rfl) ?_
  refine Rg.step 4 F_Mo_told_3 rfl (fun _ => rfl) ?_
  refine Rg.call 7 F_Mo_told_4 rfl (one_S (by decide +kernel) rM_26_200 (by decide) (by simp) rfl rfl) (Nat.le_of_ble_eq_true rfl) (Cg.any (c_Mo_in (by omega) (by omega) (by omega))) ?_
  refine Rg.ifneP 14 10 F_Mo_told_7 rfl rfl (fun _ => ?_) (fun h7 => by omega)
  refine Rg.step 15 F_Mo_told_14 rfl (fun _ => rfl) ?_
  refine Rg.step 16 F_Mo_told_15 rfl (fun _ => rfl) ?_
  refine Rg.icneI 34 19 F_Mo_told_16 rfl rfl (by omega) (by omega) (fun _ => ?_) (fun h16 => by omega)
  refine Rg.step 35 F_Mo_told_34 rfl (fun _ => rfl) ?_
  refine Rg.step 36 F_Mo_told_35 rfl (fun _ => rfl) ?_
  refine Rg.step 37 F_Mo_told_36 rfl (fun _ => rfl) ?_
  refine Rg.getf 40 F_Mo_told_37 rfl rF_26_242 (gM hp) rfl ?_
  refine Rg.step 41 F_Mo_told_40 rfl (fun _ => rfl) ?_
  refine Rg.subI 42 F_Mo_told_41 rfl ?_
  refine Rg.call 45 F_Mo_told_42 rfl (one_S (by decide +kernel) rM_26_200 (by decide) (by simp) rfl rfl) (Nat.le_of_ble_eq_true rfl) (Cg.any (c_Mo_in (by omega) (by omega) (by omega))) ?_
  refine Rg.ifeqP 52 48 F_Mo_told_45 rfl rfl (fun h45 => by omega) (fun _ => ?_)
  refine Rg.step 49 F_Mo_told_48 rfl (fun _ => rfl) ?_
  refine Rg.step 53 F_Mo_told_49 rfl (fun _ => rfl) ?_
  refine Rg.put 56 F_Mo_told_53 rfl rF_26_178 (gM hp) (by decide) (Nat.le_of_ble_eq_true rfl) (Or.inl rfl) rfl (sM_code hp) ?_
  refine Rg.step 57 F_Mo_told_56 rfl (fun _ => rfl) ?_
  refine Rg.getf 60 F_Mo_told_57 rfl rF_26_178 (gM hp) rfl ?_
  refine Rg.ifle 65 63 F_Mo_told_60 rfl rfl (fun _ => ?_) (fun h60 => absurd h60 (by decide))
  refine Rg.step 66 F_Mo_told_65 rfl (fun _ => rfl) ?_
  refine Rg.ifneI 89 69 F_Mo_told_66 rfl rfl (by omega) (fun h66 => by omega) (fun _ => ?_)
  refine Rg.step 70 F_Mo_told_69 rfl (fun _ => rfl) ?_
  refine Rg.ifeqP 82 73 F_Mo_told_70 rfl rfl (fun _ => ?_) (fun h70 => absurd h70 hab)
  refine Rg.step 83 F_Mo_told_82 rfl (fun _ => rfl) ?_
  refine Rg.getf 86 F_Mo_told_83 rfl rF_26_99 (gM hp) rfl ?_
  refine Rg.step 87 F_Mo_told_86 rfl (fun _ => rfl) ?_
  refine Rg.lld 88 F_Mo_told_87 rfl (gR_startD hp) (by omega) (by decide) ?_
  exact Rg.retL F_Mo_told_88 rfl rfl rfl
theorem c_Mo_below_0 {d : Nat}  (hp : pre.length = 168) {i : Int} (wS : 0 ≤ steps ∧ steps ≤ 12) (wJ : judged = 0 ∨ judged = 1) (b_0 : -2147483648 ≤ i ∧ i < 2147483648) (h : 0 ≤ i ∧ i ≤ steps - 1) : Cg false (d + 3) m_Mo_below [.ref 168, .int (iI 0), .int (iI i)] (MR pre code amountN amountD momentN momentD epsilonN epsilonD firstFacts firstN firstD wishes wants wantN wantD actions needs needTime needOf needHow needN needD changes changeTime changeOf changeHow changeN changeD lastOf lastN lastD steps stepAction startN startD lengthN lengthD rows row tried triedAction triedRows triedRow times unit facts numN numD oldFacts oldN oldD point judged fault faultPoint toldFacts toldN toldD outN outD pointN pointD gone now leastN leastD greatestN greatestD events post) (.inl (some (.long (lI (startD i))))) (MR pre 0 amountN amountD momentN momentD epsilonN epsilonD firstFacts firstN firstD wishes wants wantN wantD actions needs needTime needOf needHow needN needD changes changeTime changeOf changeHow changeN changeD lastOf lastN lastD steps stepAction startN startD lengthN lengthD rows row tried triedAction triedRows triedRow times unit facts numN numD oldFacts oldN oldD point judged fault faultPoint toldFacts toldN toldD outN outD pointN pointD gone now leastN leastD greatestN greatestD events post) := by
  refine Cg.of (Nat.le_of_ble_eq_true rfl) ?_
  change Rg _ _ _ _ 0 [(0, .ref 168), (1, .int (iI 0)), (2, .int (iI i))] [] _ _ _
  refine Rg.step 1 F_Mo_below_0 rfl (fun _ => rfl) ?_
  refine Rg.step 2 F_Mo_below_1 rfl (fun _ => rfl) ?_
  refine Rg.step 3 F_Mo_below_2 rfl (fun _ => rfl) ?_
  refine Rg.cP0 (B := False) 4 F_Mo_below_3 rfl (fun z => z) ?_
  refine Rg.call 7 F_Mo_below_4 rfl (one_V rM_26_397 (by decide) (by simp) rfl rfl (gM hp) rfl) (Nat.le_of_ble_eq_true rfl) (c_Mo_told_0D hp (fun z => z) wS wJ (by omega) h) ?_
  exact Rg.retL F_Mo_below_7 rfl rfl rfl
theorem c_Mo_told_1D {d : Nat}  (hp : pre.length = 168) {ab : Prop} {i : Int} (hab : ¬ ab) (wS : 0 ≤ steps ∧ steps ≤ 12) (wJ : judged = 0 ∨ judged = 1) (b_0 : -2147483648 ≤ i ∧ i < 2147483648) (h : 0 ≤ i ∧ i ≤ steps - 1) : Cg false (d + 2) m_Mo_told [.ref 168, .int (iI 1), .int (iI i), .int (bP ab)] (MR pre code amountN amountD momentN momentD epsilonN epsilonD firstFacts firstN firstD wishes wants wantN wantD actions needs needTime needOf needHow needN needD changes changeTime changeOf changeHow changeN changeD lastOf lastN lastD steps stepAction startN startD lengthN lengthD rows row tried triedAction triedRows triedRow times unit facts numN numD oldFacts oldN oldD point judged fault faultPoint toldFacts toldN toldD outN outD pointN pointD gone now leastN leastD greatestN greatestD events post) (.inl (some (.long (lI (lengthD i))))) (MR pre 0 amountN amountD momentN momentD epsilonN epsilonD firstFacts firstN firstD wishes wants wantN wantD actions needs needTime needOf needHow needN needD changes changeTime changeOf changeHow changeN changeD lastOf lastN lastD steps stepAction startN startD lengthN lengthD rows row tried triedAction triedRows triedRow times unit facts numN numD oldFacts oldN oldD point judged fault faultPoint toldFacts toldN toldD outN outD pointN pointD gone now leastN leastD greatestN greatestD events post) := by
  refine Cg.of (Nat.le_of_ble_eq_true rfl) ?_
  change Rg _ _ _ _ 0 [(0, .ref 168), (1, .int (iI 1)), (2, .int (iI i)), (3, .int (bP ab))] [] _ _ _
  refine Rg.step 1 F_Mo_told_0 rfl (fun _ => rfl) ?_
  refine Rg.step 2 F_Mo_told_1 rfl (fun _ => rfl) ?_
  refine Rg.step 3 F_Mo_told_2 rfl (fun _ => rfl) ?_
  refine Rg.step 4 F_Mo_told_3 rfl (fun _ => rfl) ?_
  refine Rg.call 7 F_Mo_told_4 rfl (one_S (by decide +kernel) rM_26_200 (by decide) (by simp) rfl rfl) (Nat.le_of_ble_eq_true rfl) (Cg.any (c_Mo_in (by omega) (by omega) (by omega))) ?_
  refine Rg.ifneP 14 10 F_Mo_told_7 rfl rfl (fun _ => ?_) (fun h7 => by omega)
  refine Rg.step 15 F_Mo_told_14 rfl (fun _ => rfl) ?_
  refine Rg.step 16 F_Mo_told_15 rfl (fun _ => rfl) ?_
  refine Rg.icneI 34 19 F_Mo_told_16 rfl rfl (by omega) (by omega) (fun _ => ?_) (fun h16 => by omega)
  refine Rg.step 35 F_Mo_told_34 rfl (fun _ => rfl) ?_
  refine Rg.step 36 F_Mo_told_35 rfl (fun _ => rfl) ?_
  refine Rg.step 37 F_Mo_told_36 rfl (fun _ => rfl) ?_
  refine Rg.getf 40 F_Mo_told_37 rfl rF_26_242 (gM hp) rfl ?_
  refine Rg.step 41 F_Mo_told_40 rfl (fun _ => rfl) ?_
  refine Rg.subI 42 F_Mo_told_41 rfl ?_
  refine Rg.call 45 F_Mo_told_42 rfl (one_S (by decide +kernel) rM_26_200 (by decide) (by simp) rfl rfl) (Nat.le_of_ble_eq_true rfl) (Cg.any (c_Mo_in (by omega) (by omega) (by omega))) ?_
  refine Rg.ifeqP 52 48 F_Mo_told_45 rfl rfl (fun h45 => by omega) (fun _ => ?_)
  refine Rg.step 49 F_Mo_told_48 rfl (fun _ => rfl) ?_
  refine Rg.step 53 F_Mo_told_49 rfl (fun _ => rfl) ?_
  refine Rg.put 56 F_Mo_told_53 rfl rF_26_178 (gM hp) (by decide) (Nat.le_of_ble_eq_true rfl) (Or.inl rfl) rfl (sM_code hp) ?_
  refine Rg.step 57 F_Mo_told_56 rfl (fun _ => rfl) ?_
  refine Rg.getf 60 F_Mo_told_57 rfl rF_26_178 (gM hp) rfl ?_
  refine Rg.ifle 65 63 F_Mo_told_60 rfl rfl (fun _ => ?_) (fun h60 => absurd h60 (by decide))
  refine Rg.step 66 F_Mo_told_65 rfl (fun _ => rfl) ?_
  refine Rg.ifneI 89 69 F_Mo_told_66 rfl rfl (by omega) (fun _ => ?_) (fun h66 => by omega)
  refine Rg.step 90 F_Mo_told_89 rfl (fun _ => rfl) ?_
  refine Rg.step 91 F_Mo_told_90 rfl (fun _ => rfl) ?_
  refine Rg.icneI 114 94 F_Mo_told_91 rfl rfl (by omega) (by omega) (fun h91 => by omega) (fun _ => ?_)
  refine Rg.step 95 F_Mo_told_94 rfl (fun _ => rfl) ?_
  refine Rg.ifeqP 107 98 F_Mo_told_95 rfl rfl (fun _ => ?_) (fun h95 => absurd h95 hab)
  refine Rg.step 108 F_Mo_told_107 rfl (fun _ => rfl) ?_
  refine Rg.getf 111 F_Mo_told_108 rfl rF_26_105 (gM hp) rfl ?_
  refine Rg.step 112 F_Mo_told_111 rfl (fun _ => rfl) ?_
  refine Rg.lld 113 F_Mo_told_112 rfl (gR_lengthD hp) (by omega) (by decide) ?_
  exact Rg.retL F_Mo_told_113 rfl rfl rfl
theorem c_Mo_below_1 {d : Nat}  (hp : pre.length = 168) {i : Int} (wS : 0 ≤ steps ∧ steps ≤ 12) (wJ : judged = 0 ∨ judged = 1) (b_0 : -2147483648 ≤ i ∧ i < 2147483648) (h : 0 ≤ i ∧ i ≤ steps - 1) : Cg false (d + 3) m_Mo_below [.ref 168, .int (iI 1), .int (iI i)] (MR pre code amountN amountD momentN momentD epsilonN epsilonD firstFacts firstN firstD wishes wants wantN wantD actions needs needTime needOf needHow needN needD changes changeTime changeOf changeHow changeN changeD lastOf lastN lastD steps stepAction startN startD lengthN lengthD rows row tried triedAction triedRows triedRow times unit facts numN numD oldFacts oldN oldD point judged fault faultPoint toldFacts toldN toldD outN outD pointN pointD gone now leastN leastD greatestN greatestD events post) (.inl (some (.long (lI (lengthD i))))) (MR pre 0 amountN amountD momentN momentD epsilonN epsilonD firstFacts firstN firstD wishes wants wantN wantD actions needs needTime needOf needHow needN needD changes changeTime changeOf changeHow changeN changeD lastOf lastN lastD steps stepAction startN startD lengthN lengthD rows row tried triedAction triedRows triedRow times unit facts numN numD oldFacts oldN oldD point judged fault faultPoint toldFacts toldN toldD outN outD pointN pointD gone now leastN leastD greatestN greatestD events post) := by
  refine Cg.of (Nat.le_of_ble_eq_true rfl) ?_
  change Rg _ _ _ _ 0 [(0, .ref 168), (1, .int (iI 1)), (2, .int (iI i))] [] _ _ _
  refine Rg.step 1 F_Mo_below_0 rfl (fun _ => rfl) ?_
  refine Rg.step 2 F_Mo_below_1 rfl (fun _ => rfl) ?_
  refine Rg.step 3 F_Mo_below_2 rfl (fun _ => rfl) ?_
  refine Rg.cP0 (B := False) 4 F_Mo_below_3 rfl (fun z => z) ?_
  refine Rg.call 7 F_Mo_below_4 rfl (one_V rM_26_397 (by decide) (by simp) rfl rfl (gM hp) rfl) (Nat.le_of_ble_eq_true rfl) (c_Mo_told_1D hp (fun z => z) wS wJ (by omega) h) ?_
  exact Rg.retL F_Mo_below_7 rfl rfl rfl
theorem c_Mo_told_2D {d : Nat}  (hp : pre.length = 168) {ab : Prop} {i : Int} (hab : ¬ ab) (wS : 0 ≤ steps ∧ steps ≤ 12) (wJ : judged = 0 ∨ judged = 1) (b_0 : -2147483648 ≤ i ∧ i < 2147483648) (h : 0 ≤ i ∧ i ≤ 7) (hj : judged = 0) : Cg false (d + 2) m_Mo_told [.ref 168, .int (iI 2), .int (iI i), .int (bP ab)] (MR pre code amountN amountD momentN momentD epsilonN epsilonD firstFacts firstN firstD wishes wants wantN wantD actions needs needTime needOf needHow needN needD changes changeTime changeOf changeHow changeN changeD lastOf lastN lastD steps stepAction startN startD lengthN lengthD rows row tried triedAction triedRows triedRow times unit facts numN numD oldFacts oldN oldD point judged fault faultPoint toldFacts toldN toldD outN outD pointN pointD gone now leastN leastD greatestN greatestD events post) (.inl (some (.long (lI (firstD i))))) (MR pre 0 amountN amountD momentN momentD epsilonN epsilonD firstFacts firstN firstD wishes wants wantN wantD actions needs needTime needOf needHow needN needD changes changeTime changeOf changeHow changeN changeD lastOf lastN lastD steps stepAction startN startD lengthN lengthD rows row tried triedAction triedRows triedRow times unit facts numN numD oldFacts oldN oldD point judged fault faultPoint toldFacts toldN toldD outN outD pointN pointD gone now leastN leastD greatestN greatestD events post) := by
  refine Cg.of (Nat.le_of_ble_eq_true rfl) ?_
  change Rg _ _ _ _ 0 [(0, .ref 168), (1, .int (iI 2)), (2, .int (iI i)), (3, .int (bP ab))] [] _ _ _
  refine Rg.step 1 F_Mo_told_0 rfl (fun _ => rfl) ?_
  refine Rg.step 2 F_Mo_told_1 rfl (fun _ => rfl) ?_
  refine Rg.step 3 F_Mo_told_2 rfl (fun _ => rfl) ?_
  refine Rg.step 4 F_Mo_told_3 rfl (fun _ => rfl) ?_
  refine Rg.call 7 F_Mo_told_4 rfl (one_S (by decide +kernel) rM_26_200 (by decide) (by simp) rfl rfl) (Nat.le_of_ble_eq_true rfl) (Cg.any (c_Mo_in (by omega) (by omega) (by omega))) ?_
  refine Rg.ifneP 14 10 F_Mo_told_7 rfl rfl (fun _ => ?_) (fun h7 => by omega)
  refine Rg.step 15 F_Mo_told_14 rfl (fun _ => rfl) ?_
  refine Rg.step 16 F_Mo_told_15 rfl (fun _ => rfl) ?_
  refine Rg.icneI 34 19 F_Mo_told_16 rfl rfl (by omega) (by omega) (fun h16 => by omega) (fun _ => ?_)
  refine Rg.step 20 F_Mo_told_19 rfl (fun _ => rfl) ?_
  refine Rg.call 23 F_Mo_told_20 rfl (one_S (by decide +kernel) rM_26_225 (by decide) (by simp) rfl rfl) (Nat.le_of_ble_eq_true rfl) (Cg.any (c_Mo_isNumber (by omega))) ?_
  refine Rg.ifeqP 30 26 F_Mo_told_23 rfl rfl (fun h23 => by omega) (fun _ => ?_)
  refine Rg.step 27 F_Mo_told_26 rfl (fun _ => rfl) ?_
  refine Rg.step 53 F_Mo_told_27 rfl (fun _ => rfl) ?_
  refine Rg.put 56 F_Mo_told_53 rfl rF_26_178 (gM hp) (by decide) (Nat.le_of_ble_eq_true rfl) (Or.inl rfl) rfl (sM_code hp) ?_
  refine Rg.step 57 F_Mo_told_56 rfl (fun _ => rfl) ?_
  refine Rg.getf 60 F_Mo_told_57 rfl rF_26_178 (gM hp) rfl ?_
  refine Rg.ifle 65 63 F_Mo_told_60 rfl rfl (fun _ => ?_) (fun h60 => absurd h60 (by decide))
  refine Rg.step 66 F_Mo_told_65 rfl (fun _ => rfl) ?_
  refine Rg.ifneI 89 69 F_Mo_told_66 rfl rfl (by omega) (fun _ => ?_) (fun h66 => by omega)
  refine Rg.step 90 F_Mo_told_89 rfl (fun _ => rfl) ?_
  refine Rg.step 91 F_Mo_told_90 rfl (fun _ => rfl) ?_
  refine Rg.icneI 114 94 F_Mo_told_91 rfl rfl (by omega) (by omega) (fun _ => ?_) (fun h91 => by omega)
  refine Rg.step 115 F_Mo_told_114 rfl (fun _ => rfl) ?_
  refine Rg.getf 118 F_Mo_told_115 rfl rF_26_320 (gM hp) rfl ?_
  refine Rg.ifneI 141 121 F_Mo_told_118 rfl rfl (by omega) (fun h118 => by omega) (fun _ => ?_)
  refine Rg.step 122 F_Mo_told_121 rfl (fun _ => rfl) ?_
  refine Rg.ifeqP 134 125 F_Mo_told_122 rfl rfl (fun _ => ?_) (fun h122 => absurd h122 hab)
  refine Rg.step 135 F_Mo_told_134 rfl (fun _ => rfl) ?_
  refine Rg.getf 138 F_Mo_told_135 rfl rF_26_32 (gM hp) rfl ?_
  refine Rg.step 139 F_Mo_told_138 rfl (fun _ => rfl) ?_
  refine Rg.lld 140 F_Mo_told_139 rfl (gR_firstD hp) (by omega) (by decide) ?_
  exact Rg.retL F_Mo_told_140 rfl rfl rfl
theorem c_Mo_below_2 {d : Nat}  (hp : pre.length = 168) {i : Int} (wS : 0 ≤ steps ∧ steps ≤ 12) (wJ : judged = 0 ∨ judged = 1) (b_0 : -2147483648 ≤ i ∧ i < 2147483648) (h : 0 ≤ i ∧ i ≤ 7) (hj : judged = 0) : Cg false (d + 3) m_Mo_below [.ref 168, .int (iI 2), .int (iI i)] (MR pre code amountN amountD momentN momentD epsilonN epsilonD firstFacts firstN firstD wishes wants wantN wantD actions needs needTime needOf needHow needN needD changes changeTime changeOf changeHow changeN changeD lastOf lastN lastD steps stepAction startN startD lengthN lengthD rows row tried triedAction triedRows triedRow times unit facts numN numD oldFacts oldN oldD point judged fault faultPoint toldFacts toldN toldD outN outD pointN pointD gone now leastN leastD greatestN greatestD events post) (.inl (some (.long (lI (firstD i))))) (MR pre 0 amountN amountD momentN momentD epsilonN epsilonD firstFacts firstN firstD wishes wants wantN wantD actions needs needTime needOf needHow needN needD changes changeTime changeOf changeHow changeN changeD lastOf lastN lastD steps stepAction startN startD lengthN lengthD rows row tried triedAction triedRows triedRow times unit facts numN numD oldFacts oldN oldD point judged fault faultPoint toldFacts toldN toldD outN outD pointN pointD gone now leastN leastD greatestN greatestD events post) := by
  refine Cg.of (Nat.le_of_ble_eq_true rfl) ?_
  change Rg _ _ _ _ 0 [(0, .ref 168), (1, .int (iI 2)), (2, .int (iI i))] [] _ _ _
  refine Rg.step 1 F_Mo_below_0 rfl (fun _ => rfl) ?_
  refine Rg.step 2 F_Mo_below_1 rfl (fun _ => rfl) ?_
  refine Rg.step 3 F_Mo_below_2 rfl (fun _ => rfl) ?_
  refine Rg.cP0 (B := False) 4 F_Mo_below_3 rfl (fun z => z) ?_
  refine Rg.call 7 F_Mo_below_4 rfl (one_V rM_26_397 (by decide) (by simp) rfl rfl (gM hp) rfl) (Nat.le_of_ble_eq_true rfl) (c_Mo_told_2D hp (fun z => z) wS wJ (by omega) h hj) ?_
  exact Rg.retL F_Mo_below_7 rfl rfl rfl
theorem c_Mo_told_2tD {d : Nat}  (hp : pre.length = 168) {ab : Prop} {i : Int} (hab : ¬ ab) (wS : 0 ≤ steps ∧ steps ≤ 12) (wJ : judged = 0 ∨ judged = 1) (b_0 : -2147483648 ≤ i ∧ i < 2147483648) (h : 0 ≤ i ∧ i ≤ 7) (hj : judged = 1) : Cg false (d + 2) m_Mo_told [.ref 168, .int (iI 2), .int (iI i), .int (bP ab)] (MR pre code amountN amountD momentN momentD epsilonN epsilonD firstFacts firstN firstD wishes wants wantN wantD actions needs needTime needOf needHow needN needD changes changeTime changeOf changeHow changeN changeD lastOf lastN lastD steps stepAction startN startD lengthN lengthD rows row tried triedAction triedRows triedRow times unit facts numN numD oldFacts oldN oldD point judged fault faultPoint toldFacts toldN toldD outN outD pointN pointD gone now leastN leastD greatestN greatestD events post) (.inl (some (.long (lI (toldD i))))) (MR pre 0 amountN amountD momentN momentD epsilonN epsilonD firstFacts firstN firstD wishes wants wantN wantD actions needs needTime needOf needHow needN needD changes changeTime changeOf changeHow changeN changeD lastOf lastN lastD steps stepAction startN startD lengthN lengthD rows row tried triedAction triedRows triedRow times unit facts numN numD oldFacts oldN oldD point judged fault faultPoint toldFacts toldN toldD outN outD pointN pointD gone now leastN leastD greatestN greatestD events post) := by
  refine Cg.of (Nat.le_of_ble_eq_true rfl) ?_
  change Rg _ _ _ _ 0 [(0, .ref 168), (1, .int (iI 2)), (2, .int (iI i)), (3, .int (bP ab))] [] _ _ _
  refine Rg.step 1 F_Mo_told_0 rfl (fun _ => rfl) ?_
  refine Rg.step 2 F_Mo_told_1 rfl (fun _ => rfl) ?_
  refine Rg.step 3 F_Mo_told_2 rfl (fun _ => rfl) ?_
  refine Rg.step 4 F_Mo_told_3 rfl (fun _ => rfl) ?_
  refine Rg.call 7 F_Mo_told_4 rfl (one_S (by decide +kernel) rM_26_200 (by decide) (by simp) rfl rfl) (Nat.le_of_ble_eq_true rfl) (Cg.any (c_Mo_in (by omega) (by omega) (by omega))) ?_
  refine Rg.ifneP 14 10 F_Mo_told_7 rfl rfl (fun _ => ?_) (fun h7 => by omega)
  refine Rg.step 15 F_Mo_told_14 rfl (fun _ => rfl) ?_
  refine Rg.step 16 F_Mo_told_15 rfl (fun _ => rfl) ?_
  refine Rg.icneI 34 19 F_Mo_told_16 rfl rfl (by omega) (by omega) (fun h16 => by omega) (fun _ => ?_)
  refine Rg.step 20 F_Mo_told_19 rfl (fun _ => rfl) ?_
  refine Rg.call 23 F_Mo_told_20 rfl (one_S (by decide +kernel) rM_26_225 (by decide) (by simp) rfl rfl) (Nat.le_of_ble_eq_true rfl) (Cg.any (c_Mo_isNumber (by omega))) ?_
  refine Rg.ifeqP 30 26 F_Mo_told_23 rfl rfl (fun h23 => by omega) (fun _ => ?_)
  refine Rg.step 27 F_Mo_told_26 rfl (fun _ => rfl) ?_
  refine Rg.step 53 F_Mo_told_27 rfl (fun _ => rfl) ?_
  refine Rg.put 56 F_Mo_told_53 rfl rF_26_178 (gM hp) (by decide) (Nat.le_of_ble_eq_true rfl) (Or.inl rfl) rfl (sM_code hp) ?_
  refine Rg.step 57 F_Mo_told_56 rfl (fun _ => rfl) ?_
  refine Rg.getf 60 F_Mo_told_57 rfl rF_26_178 (gM hp) rfl ?_
  refine Rg.ifle 65 63 F_Mo_told_60 rfl rfl (fun _ => ?_) (fun h60 => absurd h60 (by decide))
  refine Rg.step 66 F_Mo_told_65 rfl (fun _ => rfl) ?_
  refine Rg.ifneI 89 69 F_Mo_told_66 rfl rfl (by omega) (fun _ => ?_) (fun h66 => by omega)
  refine Rg.step 90 F_Mo_told_89 rfl (fun _ => rfl) ?_
  refine Rg.step 91 F_Mo_told_90 rfl (fun _ => rfl) ?_
  refine Rg.icneI 114 94 F_Mo_told_91 rfl rfl (by omega) (by omega) (fun _ => ?_) (fun h91 => by omega)
  refine Rg.step 115 F_Mo_told_114 rfl (fun _ => rfl) ?_
  refine Rg.getf 118 F_Mo_told_115 rfl rF_26_320 (gM hp) rfl ?_
  refine Rg.ifneI 141 121 F_Mo_told_118 rfl rfl (by omega) (fun _ => ?_) (fun h118 => by omega)
  refine Rg.step 142 F_Mo_told_141 rfl (fun _ => rfl) ?_
  refine Rg.ifeqP 154 145 F_Mo_told_142 rfl rfl (fun _ => ?_) (fun h142 => absurd h142 hab)
  refine Rg.step 155 F_Mo_told_154 rfl (fun _ => rfl) ?_
  refine Rg.getf 158 F_Mo_told_155 rfl rF_26_148 (gM hp) rfl ?_
  refine Rg.step 159 F_Mo_told_158 rfl (fun _ => rfl) ?_
  refine Rg.lld 160 F_Mo_told_159 rfl (gR_toldD hp) (by omega) (by decide) ?_
  exact Rg.retL F_Mo_told_160 rfl rfl rfl
theorem c_Mo_below_2t {d : Nat}  (hp : pre.length = 168) {i : Int} (wS : 0 ≤ steps ∧ steps ≤ 12) (wJ : judged = 0 ∨ judged = 1) (b_0 : -2147483648 ≤ i ∧ i < 2147483648) (h : 0 ≤ i ∧ i ≤ 7) (hj : judged = 1) : Cg false (d + 3) m_Mo_below [.ref 168, .int (iI 2), .int (iI i)] (MR pre code amountN amountD momentN momentD epsilonN epsilonD firstFacts firstN firstD wishes wants wantN wantD actions needs needTime needOf needHow needN needD changes changeTime changeOf changeHow changeN changeD lastOf lastN lastD steps stepAction startN startD lengthN lengthD rows row tried triedAction triedRows triedRow times unit facts numN numD oldFacts oldN oldD point judged fault faultPoint toldFacts toldN toldD outN outD pointN pointD gone now leastN leastD greatestN greatestD events post) (.inl (some (.long (lI (toldD i))))) (MR pre 0 amountN amountD momentN momentD epsilonN epsilonD firstFacts firstN firstD wishes wants wantN wantD actions needs needTime needOf needHow needN needD changes changeTime changeOf changeHow changeN changeD lastOf lastN lastD steps stepAction startN startD lengthN lengthD rows row tried triedAction triedRows triedRow times unit facts numN numD oldFacts oldN oldD point judged fault faultPoint toldFacts toldN toldD outN outD pointN pointD gone now leastN leastD greatestN greatestD events post) := by
  refine Cg.of (Nat.le_of_ble_eq_true rfl) ?_
  change Rg _ _ _ _ 0 [(0, .ref 168), (1, .int (iI 2)), (2, .int (iI i))] [] _ _ _
  refine Rg.step 1 F_Mo_below_0 rfl (fun _ => rfl) ?_
  refine Rg.step 2 F_Mo_below_1 rfl (fun _ => rfl) ?_
  refine Rg.step 3 F_Mo_below_2 rfl (fun _ => rfl) ?_
  refine Rg.cP0 (B := False) 4 F_Mo_below_3 rfl (fun z => z) ?_
  refine Rg.call 7 F_Mo_below_4 rfl (one_V rM_26_397 (by decide) (by simp) rfl rfl (gM hp) rfl) (Nat.le_of_ble_eq_true rfl) (c_Mo_told_2tD hp (fun z => z) wS wJ (by omega) h hj) ?_
  exact Rg.retL F_Mo_below_7 rfl rfl rfl
theorem c_Mo_told1 {d : Nat}  (hp : pre.length = 168) {ab : Prop} {w i : Int} (wS : 0 ≤ steps ∧ steps ≤ 12) (b_0 : -2147483648 ≤ w ∧ w < 2147483648) (b_1 : -2147483648 ≤ i ∧ i < 2147483648) (h : ¬ (0 ≤ w ∧ w ≤ 2)) : Cg false (d + 2) m_Mo_told [.ref 168, .int (iI w), .int (iI i), .int (bP ab)] (MR pre code amountN amountD momentN momentD epsilonN epsilonD firstFacts firstN firstD wishes wants wantN wantD actions needs needTime needOf needHow needN needD changes changeTime changeOf changeHow changeN changeD lastOf lastN lastD steps stepAction startN startD lengthN lengthD rows row tried triedAction triedRows triedRow times unit facts numN numD oldFacts oldN oldD point judged fault faultPoint toldFacts toldN toldD outN outD pointN pointD gone now leastN leastD greatestN greatestD events post) (.inl (some (.long (lI 0)))) (MR pre 1 amountN amountD momentN momentD epsilonN epsilonD firstFacts firstN firstD wishes wants wantN wantD actions needs needTime needOf needHow needN needD changes changeTime changeOf changeHow changeN changeD lastOf lastN lastD steps stepAction startN startD lengthN lengthD rows row tried triedAction triedRows triedRow times unit facts numN numD oldFacts oldN oldD point judged fault faultPoint toldFacts toldN toldD outN outD pointN pointD gone now leastN leastD greatestN greatestD events post) := by
  refine Cg.of (Nat.le_of_ble_eq_true rfl) ?_
  change Rg _ _ _ _ 0 [(0, .ref 168), (1, .int (iI w)), (2, .int (iI i)), (3, .int (bP ab))] [] _ _ _
  refine Rg.step 1 F_Mo_told_0 rfl (fun _ => rfl) ?_
  refine Rg.step 2 F_Mo_told_1 rfl (fun _ => rfl) ?_
  refine Rg.step 3 F_Mo_told_2 rfl (fun _ => rfl) ?_
  refine Rg.step 4 F_Mo_told_3 rfl (fun _ => rfl) ?_
  refine Rg.call 7 F_Mo_told_4 rfl (one_S (by decide +kernel) rM_26_200 (by decide) (by simp) rfl rfl) (Nat.le_of_ble_eq_true rfl) (Cg.any (c_Mo_in (by omega) (by omega) (by omega))) ?_
  refine Rg.ifneP 14 10 F_Mo_told_7 rfl rfl (fun h7 => by omega) (fun _ => ?_)
  refine Rg.step 11 F_Mo_told_10 rfl (fun _ => rfl) ?_
  refine Rg.step 53 F_Mo_told_11 rfl (fun _ => rfl) ?_
  refine Rg.put 56 F_Mo_told_53 rfl rF_26_178 (gM hp) (by decide) (Nat.le_of_ble_eq_true rfl) (Or.inl rfl) rfl (sM_code hp) ?_
  refine Rg.step 57 F_Mo_told_56 rfl (fun _ => rfl) ?_
  refine Rg.getf 60 F_Mo_told_57 rfl rF_26_178 (gM hp) rfl ?_
  refine Rg.ifle 65 63 F_Mo_told_60 rfl rfl (fun h60 => absurd h60 (by decide)) (fun _ => ?_)
  refine Rg.lcn (n := 0) 64 F_Mo_told_63 rfl rfl ?_
  exact Rg.retL F_Mo_told_64 rfl rfl rfl
theorem c_Mo_told2 {d : Nat}  (hp : pre.length = 168) {ab : Prop} {w i : Int} (wS : 0 ≤ steps ∧ steps ≤ 12) (b_0 : -2147483648 ≤ w ∧ w < 2147483648) (b_1 : -2147483648 ≤ i ∧ i < 2147483648) (h : 0 ≤ w ∧ w ≤ 2) (h2 : (w = 2 ∧ ¬ (0 ≤ i ∧ i ≤ 7)) ∨ (¬ w = 2 ∧ ¬ (0 ≤ i ∧ i ≤ steps - 1))) : Cg false (d + 2) m_Mo_told [.ref 168, .int (iI w), .int (iI i), .int (bP ab)] (MR pre code amountN amountD momentN momentD epsilonN epsilonD firstFacts firstN firstD wishes wants wantN wantD actions needs needTime needOf needHow needN needD changes changeTime changeOf changeHow changeN changeD lastOf lastN lastD steps stepAction startN startD lengthN lengthD rows row tried triedAction triedRows triedRow times unit facts numN numD oldFacts oldN oldD point judged fault faultPoint toldFacts toldN toldD outN outD pointN pointD gone now leastN leastD greatestN greatestD events post) (.inl (some (.long (lI 0)))) (MR pre 2 amountN amountD momentN momentD epsilonN epsilonD firstFacts firstN firstD wishes wants wantN wantD actions needs needTime needOf needHow needN needD changes changeTime changeOf changeHow changeN changeD lastOf lastN lastD steps stepAction startN startD lengthN lengthD rows row tried triedAction triedRows triedRow times unit facts numN numD oldFacts oldN oldD point judged fault faultPoint toldFacts toldN toldD outN outD pointN pointD gone now leastN leastD greatestN greatestD events post) := by
  refine Cg.of (Nat.le_of_ble_eq_true rfl) ?_
  change Rg _ _ _ _ 0 [(0, .ref 168), (1, .int (iI w)), (2, .int (iI i)), (3, .int (bP ab))] [] _ _ _
  refine Rg.step 1 F_Mo_told_0 rfl (fun _ => rfl) ?_
  refine Rg.step 2 F_Mo_told_1 rfl (fun _ => rfl) ?_
  refine Rg.step 3 F_Mo_told_2 rfl (fun _ => rfl) ?_
  refine Rg.step 4 F_Mo_told_3 rfl (fun _ => rfl) ?_
  refine Rg.call 7 F_Mo_told_4 rfl (one_S (by decide +kernel) rM_26_200 (by decide) (by simp) rfl rfl) (Nat.le_of_ble_eq_true rfl) (Cg.any (c_Mo_in (by omega) (by omega) (by omega))) ?_
  refine Rg.ifneP 14 10 F_Mo_told_7 rfl rfl (fun _ => ?_) (fun h7 => by omega)
  refine Rg.step 15 F_Mo_told_14 rfl (fun _ => rfl) ?_
  refine Rg.step 16 F_Mo_told_15 rfl (fun _ => rfl) ?_
  refine Rg.icneI 34 19 F_Mo_told_16 rfl rfl (by omega) (by omega) (fun h16 => ?_) (fun h16 => ?_)
  · refine Rg.step 35 F_Mo_told_34 rfl (fun _ => rfl) ?_
    refine Rg.step 36 F_Mo_told_35 rfl (fun _ => rfl) ?_
    refine Rg.step 37 F_Mo_told_36 rfl (fun _ => rfl) ?_
    refine Rg.getf 40 F_Mo_told_37 rfl rF_26_242 (gM hp) rfl ?_
    refine Rg.step 41 F_Mo_told_40 rfl (fun _ => rfl) ?_
    refine Rg.subI 42 F_Mo_told_41 rfl ?_
    refine Rg.call 45 F_Mo_told_42 rfl (one_S (by decide +kernel) rM_26_200 (by decide) (by simp) rfl rfl) (Nat.le_of_ble_eq_true rfl) (Cg.any (c_Mo_in (by omega) (by omega) (by omega))) ?_
    refine Rg.ifeqP 52 48 F_Mo_told_45 rfl rfl (fun _ => ?_) (fun h45 => by omega)
    refine Rg.step 53 F_Mo_told_52 rfl (fun _ => rfl) ?_
    refine Rg.put 56 F_Mo_told_53 rfl rF_26_178 (gM hp) (by decide) (Nat.le_of_ble_eq_true rfl) (Or.inl rfl) rfl (sM_code hp) ?_
    refine Rg.step 57 F_Mo_told_56 rfl (fun _ => rfl) ?_
    refine Rg.getf 60 F_Mo_told_57 rfl rF_26_178 (gM hp) rfl ?_
    refine Rg.ifle 65 63 F_Mo_told_60 rfl rfl (fun h60 => absurd h60 (by decide)) (fun _ => ?_)
    refine Rg.lcn (n := 0) 64 F_Mo_told_63 rfl rfl ?_
    exact Rg.retL F_Mo_told_64 rfl rfl rfl
  · refine Rg.step 20 F_Mo_told_19 rfl (fun _ => rfl) ?_
    refine Rg.call 23 F_Mo_told_20 rfl (one_S (by decide +kernel) rM_26_225 (by decide) (by simp) rfl rfl) (Nat.le_of_ble_eq_true rfl) (Cg.any (c_Mo_isNumber (by omega))) ?_
    refine Rg.ifeqP 30 26 F_Mo_told_23 rfl rfl (fun _ => ?_) (fun h23 => by omega)
    refine Rg.step 31 F_Mo_told_30 rfl (fun _ => rfl) ?_
    refine Rg.step 53 F_Mo_told_31 rfl (fun _ => rfl) ?_
    refine Rg.put 56 F_Mo_told_53 rfl rF_26_178 (gM hp) (by decide) (Nat.le_of_ble_eq_true rfl) (Or.inl rfl) rfl (sM_code hp) ?_
    refine Rg.step 57 F_Mo_told_56 rfl (fun _ => rfl) ?_
    refine Rg.getf 60 F_Mo_told_57 rfl rF_26_178 (gM hp) rfl ?_
    refine Rg.ifle 65 63 F_Mo_told_60 rfl rfl (fun h60 => absurd h60 (by decide)) (fun _ => ?_)
    refine Rg.lcn (n := 0) 64 F_Mo_told_63 rfl rfl ?_
    exact Rg.retL F_Mo_told_64 rfl rfl rfl
theorem c_Mo_above1 {d : Nat}  (hp : pre.length = 168) {w i : Int} (wS : 0 ≤ steps ∧ steps ≤ 12) (b_0 : -2147483648 ≤ w ∧ w < 2147483648) (b_1 : -2147483648 ≤ i ∧ i < 2147483648) (h : ¬ (0 ≤ w ∧ w ≤ 2)) : Cg false (d + 3) m_Mo_above [.ref 168, .int (iI w), .int (iI i)] (MR pre code amountN amountD momentN momentD epsilonN epsilonD firstFacts firstN firstD wishes wants wantN wantD actions needs needTime needOf needHow needN needD changes changeTime changeOf changeHow changeN changeD lastOf lastN lastD steps stepAction startN startD lengthN lengthD rows row tried triedAction triedRows triedRow times unit facts numN numD oldFacts oldN oldD point judged fault faultPoint toldFacts toldN toldD outN outD pointN pointD gone now leastN leastD greatestN greatestD events post) (.inl (some (.long (lI 0)))) (MR pre 1 amountN amountD momentN momentD epsilonN epsilonD firstFacts firstN firstD wishes wants wantN wantD actions needs needTime needOf needHow needN needD changes changeTime changeOf changeHow changeN changeD lastOf lastN lastD steps stepAction startN startD lengthN lengthD rows row tried triedAction triedRows triedRow times unit facts numN numD oldFacts oldN oldD point judged fault faultPoint toldFacts toldN toldD outN outD pointN pointD gone now leastN leastD greatestN greatestD events post) := by
  refine Cg.of (Nat.le_of_ble_eq_true rfl) ?_
  change Rg _ _ _ _ 0 [(0, .ref 168), (1, .int (iI w)), (2, .int (iI i))] [] _ _ _
  refine Rg.step 1 F_Mo_above_0 rfl (fun _ => rfl) ?_
  refine Rg.step 2 F_Mo_above_1 rfl (fun _ => rfl) ?_
  refine Rg.step 3 F_Mo_above_2 rfl (fun _ => rfl) ?_
  refine Rg.cP1 (B := True) 4 F_Mo_above_3 rfl trivial ?_
  refine Rg.call 7 F_Mo_above_4 rfl (one_V rM_26_397 (by decide) (by simp) rfl rfl (gM hp) rfl) (Nat.le_of_ble_eq_true rfl) (c_Mo_told1 hp wS (by omega) (by omega) h) ?_
  exact Rg.retL F_Mo_above_7 rfl rfl rfl
theorem c_Mo_above2 {d : Nat}  (hp : pre.length = 168) {w i : Int} (wS : 0 ≤ steps ∧ steps ≤ 12) (b_0 : -2147483648 ≤ w ∧ w < 2147483648) (b_1 : -2147483648 ≤ i ∧ i < 2147483648) (h : 0 ≤ w ∧ w ≤ 2) (h2 : (w = 2 ∧ ¬ (0 ≤ i ∧ i ≤ 7)) ∨ (¬ w = 2 ∧ ¬ (0 ≤ i ∧ i ≤ steps - 1))) : Cg false (d + 3) m_Mo_above [.ref 168, .int (iI w), .int (iI i)] (MR pre code amountN amountD momentN momentD epsilonN epsilonD firstFacts firstN firstD wishes wants wantN wantD actions needs needTime needOf needHow needN needD changes changeTime changeOf changeHow changeN changeD lastOf lastN lastD steps stepAction startN startD lengthN lengthD rows row tried triedAction triedRows triedRow times unit facts numN numD oldFacts oldN oldD point judged fault faultPoint toldFacts toldN toldD outN outD pointN pointD gone now leastN leastD greatestN greatestD events post) (.inl (some (.long (lI 0)))) (MR pre 2 amountN amountD momentN momentD epsilonN epsilonD firstFacts firstN firstD wishes wants wantN wantD actions needs needTime needOf needHow needN needD changes changeTime changeOf changeHow changeN changeD lastOf lastN lastD steps stepAction startN startD lengthN lengthD rows row tried triedAction triedRows triedRow times unit facts numN numD oldFacts oldN oldD point judged fault faultPoint toldFacts toldN toldD outN outD pointN pointD gone now leastN leastD greatestN greatestD events post) := by
  refine Cg.of (Nat.le_of_ble_eq_true rfl) ?_
  change Rg _ _ _ _ 0 [(0, .ref 168), (1, .int (iI w)), (2, .int (iI i))] [] _ _ _
  refine Rg.step 1 F_Mo_above_0 rfl (fun _ => rfl) ?_
  refine Rg.step 2 F_Mo_above_1 rfl (fun _ => rfl) ?_
  refine Rg.step 3 F_Mo_above_2 rfl (fun _ => rfl) ?_
  refine Rg.cP1 (B := True) 4 F_Mo_above_3 rfl trivial ?_
  refine Rg.call 7 F_Mo_above_4 rfl (one_V rM_26_397 (by decide) (by simp) rfl rfl (gM hp) rfl) (Nat.le_of_ble_eq_true rfl) (c_Mo_told2 hp wS (by omega) (by omega) h h2) ?_
  exact Rg.retL F_Mo_above_7 rfl rfl rfl
theorem c_Mo_below1 {d : Nat}  (hp : pre.length = 168) {w i : Int} (wS : 0 ≤ steps ∧ steps ≤ 12) (b_0 : -2147483648 ≤ w ∧ w < 2147483648) (b_1 : -2147483648 ≤ i ∧ i < 2147483648) (h : ¬ (0 ≤ w ∧ w ≤ 2)) : Cg false (d + 3) m_Mo_below [.ref 168, .int (iI w), .int (iI i)] (MR pre code amountN amountD momentN momentD epsilonN epsilonD firstFacts firstN firstD wishes wants wantN wantD actions needs needTime needOf needHow needN needD changes changeTime changeOf changeHow changeN changeD lastOf lastN lastD steps stepAction startN startD lengthN lengthD rows row tried triedAction triedRows triedRow times unit facts numN numD oldFacts oldN oldD point judged fault faultPoint toldFacts toldN toldD outN outD pointN pointD gone now leastN leastD greatestN greatestD events post) (.inl (some (.long (lI 0)))) (MR pre 1 amountN amountD momentN momentD epsilonN epsilonD firstFacts firstN firstD wishes wants wantN wantD actions needs needTime needOf needHow needN needD changes changeTime changeOf changeHow changeN changeD lastOf lastN lastD steps stepAction startN startD lengthN lengthD rows row tried triedAction triedRows triedRow times unit facts numN numD oldFacts oldN oldD point judged fault faultPoint toldFacts toldN toldD outN outD pointN pointD gone now leastN leastD greatestN greatestD events post) := by
  refine Cg.of (Nat.le_of_ble_eq_true rfl) ?_
  change Rg _ _ _ _ 0 [(0, .ref 168), (1, .int (iI w)), (2, .int (iI i))] [] _ _ _
  refine Rg.step 1 F_Mo_below_0 rfl (fun _ => rfl) ?_
  refine Rg.step 2 F_Mo_below_1 rfl (fun _ => rfl) ?_
  refine Rg.step 3 F_Mo_below_2 rfl (fun _ => rfl) ?_
  refine Rg.cP0 (B := False) 4 F_Mo_below_3 rfl (fun z => z) ?_
  refine Rg.call 7 F_Mo_below_4 rfl (one_V rM_26_397 (by decide) (by simp) rfl rfl (gM hp) rfl) (Nat.le_of_ble_eq_true rfl) (c_Mo_told1 hp wS (by omega) (by omega) h) ?_
  exact Rg.retL F_Mo_below_7 rfl rfl rfl
theorem c_Mo_below2 {d : Nat}  (hp : pre.length = 168) {w i : Int} (wS : 0 ≤ steps ∧ steps ≤ 12) (b_0 : -2147483648 ≤ w ∧ w < 2147483648) (b_1 : -2147483648 ≤ i ∧ i < 2147483648) (h : 0 ≤ w ∧ w ≤ 2) (h2 : (w = 2 ∧ ¬ (0 ≤ i ∧ i ≤ 7)) ∨ (¬ w = 2 ∧ ¬ (0 ≤ i ∧ i ≤ steps - 1))) : Cg false (d + 3) m_Mo_below [.ref 168, .int (iI w), .int (iI i)] (MR pre code amountN amountD momentN momentD epsilonN epsilonD firstFacts firstN firstD wishes wants wantN wantD actions needs needTime needOf needHow needN needD changes changeTime changeOf changeHow changeN changeD lastOf lastN lastD steps stepAction startN startD lengthN lengthD rows row tried triedAction triedRows triedRow times unit facts numN numD oldFacts oldN oldD point judged fault faultPoint toldFacts toldN toldD outN outD pointN pointD gone now leastN leastD greatestN greatestD events post) (.inl (some (.long (lI 0)))) (MR pre 2 amountN amountD momentN momentD epsilonN epsilonD firstFacts firstN firstD wishes wants wantN wantD actions needs needTime needOf needHow needN needD changes changeTime changeOf changeHow changeN changeD lastOf lastN lastD steps stepAction startN startD lengthN lengthD rows row tried triedAction triedRows triedRow times unit facts numN numD oldFacts oldN oldD point judged fault faultPoint toldFacts toldN toldD outN outD pointN pointD gone now leastN leastD greatestN greatestD events post) := by
  refine Cg.of (Nat.le_of_ble_eq_true rfl) ?_
  change Rg _ _ _ _ 0 [(0, .ref 168), (1, .int (iI w)), (2, .int (iI i))] [] _ _ _
  refine Rg.step 1 F_Mo_below_0 rfl (fun _ => rfl) ?_
  refine Rg.step 2 F_Mo_below_1 rfl (fun _ => rfl) ?_
  refine Rg.step 3 F_Mo_below_2 rfl (fun _ => rfl) ?_
  refine Rg.cP0 (B := False) 4 F_Mo_below_3 rfl (fun z => z) ?_
  refine Rg.call 7 F_Mo_below_4 rfl (one_V rM_26_397 (by decide) (by simp) rfl rfl (gM hp) rfl) (Nat.le_of_ble_eq_true rfl) (c_Mo_told2 hp wS (by omega) (by omega) h h2) ?_
  exact Rg.retL F_Mo_below_7 rfl rfl rfl
theorem c_Mo_holds_t {d : Nat}  (hp : pre.length = 168) {f : Int} (wJ : judged = 0 ∨ judged = 1) (b_0 : -2147483648 ≤ f ∧ f < 2147483648) (h : 0 ≤ f ∧ f ≤ 15) (hj : judged = 1) : Cg false (d + 2) m_Mo_holds [.ref 168, .int (iI f)] (MR pre code amountN amountD momentN momentD epsilonN epsilonD firstFacts firstN firstD wishes wants wantN wantD actions needs needTime needOf needHow needN needD changes changeTime changeOf changeHow changeN changeD lastOf lastN lastD steps stepAction startN startD lengthN lengthD rows row tried triedAction triedRows triedRow times unit facts numN numD oldFacts oldN oldD point judged fault faultPoint toldFacts toldN toldD outN outD pointN pointD gone now leastN leastD greatestN greatestD events post) (.inl (some (.int (bP (toldFacts f))))) (MR pre 0 amountN amountD momentN momentD epsilonN epsilonD firstFacts firstN firstD wishes wants wantN wantD actions needs needTime needOf needHow needN needD changes changeTime changeOf changeHow changeN changeD lastOf lastN lastD steps stepAction startN startD lengthN lengthD rows row tried triedAction triedRows triedRow times unit facts numN numD oldFacts oldN oldD point judged fault faultPoint toldFacts toldN toldD outN outD pointN pointD gone now leastN leastD greatestN greatestD events post) := by
  refine Cg.of (Nat.le_of_ble_eq_true rfl) ?_
  change Rg _ _ _ _ 0 [(0, .ref 168), (1, .int (iI f))] [] _ _ _
  refine Rg.step 1 F_Mo_holds_0 rfl (fun _ => rfl) ?_
  refine Rg.step 2 F_Mo_holds_1 rfl (fun _ => rfl) ?_
  refine Rg.call 5 F_Mo_holds_2 rfl (one_S (by decide +kernel) rM_26_221 (by decide) (by simp) rfl rfl) (Nat.le_of_ble_eq_true rfl) (Cg.any (c_Mo_isFact (by omega))) ?_
  refine Rg.ifeqP 12 8 F_Mo_holds_5 rfl rfl (fun h5 => by omega) (fun _ => ?_)
  refine Rg.step 9 F_Mo_holds_8 rfl (fun _ => rfl) ?_
  refine Rg.step 13 F_Mo_holds_9 rfl (fun _ => rfl) ?_
  refine Rg.put 16 F_Mo_holds_13 rfl rF_26_178 (gM hp) (by decide) (Nat.le_of_ble_eq_true rfl) (Or.inl rfl) rfl (sM_code hp) ?_
  refine Rg.step 17 F_Mo_holds_16 rfl (fun _ => rfl) ?_
  refine Rg.getf 20 F_Mo_holds_17 rfl rF_26_178 (gM hp) rfl ?_
  refine Rg.ifle 25 23 F_Mo_holds_20 rfl rfl (fun _ => ?_) (fun h20 => absurd h20 (by decide))
  refine Rg.step 26 F_Mo_holds_25 rfl (fun _ => rfl) ?_
  refine Rg.getf 29 F_Mo_holds_26 rfl rF_26_320 (gM hp) rfl ?_
  refine Rg.ifeqI 41 32 F_Mo_holds_29 rfl rfl (by omega) (fun h29 => by omega) (fun _ => ?_)
  refine Rg.step 33 F_Mo_holds_32 rfl (fun _ => rfl) ?_
  refine Rg.getf 36 F_Mo_holds_33 rfl rF_26_142 (gM hp) rfl ?_
  refine Rg.step 37 F_Mo_holds_36 rfl (fun _ => rfl) ?_
  refine Rg.zld 38 F_Mo_holds_37 rfl (gR_toldFacts hp) (by omega) (by decide) ?_
  refine Rg.step 47 F_Mo_holds_38 rfl (fun _ => rfl) ?_
  exact Rg.retP F_Mo_holds_47 rfl Iff.rfl rfl
theorem c_Mo_holds_f {d : Nat}  (hp : pre.length = 168) {f : Int} (wJ : judged = 0 ∨ judged = 1) (b_0 : -2147483648 ≤ f ∧ f < 2147483648) (h : 0 ≤ f ∧ f ≤ 15) (hj : judged = 0) : Cg false (d + 2) m_Mo_holds [.ref 168, .int (iI f)] (MR pre code amountN amountD momentN momentD epsilonN epsilonD firstFacts firstN firstD wishes wants wantN wantD actions needs needTime needOf needHow needN needD changes changeTime changeOf changeHow changeN changeD lastOf lastN lastD steps stepAction startN startD lengthN lengthD rows row tried triedAction triedRows triedRow times unit facts numN numD oldFacts oldN oldD point judged fault faultPoint toldFacts toldN toldD outN outD pointN pointD gone now leastN leastD greatestN greatestD events post) (.inl (some (.int (bP (firstFacts f))))) (MR pre 0 amountN amountD momentN momentD epsilonN epsilonD firstFacts firstN firstD wishes wants wantN wantD actions needs needTime needOf needHow needN needD changes changeTime changeOf changeHow changeN changeD lastOf lastN lastD steps stepAction startN startD lengthN lengthD rows row tried triedAction triedRows triedRow times unit facts numN numD oldFacts oldN oldD point judged fault faultPoint toldFacts toldN toldD outN outD pointN pointD gone now leastN leastD greatestN greatestD events post) := by
  refine Cg.of (Nat.le_of_ble_eq_true rfl) ?_
  change Rg _ _ _ _ 0 [(0, .ref 168), (1, .int (iI f))] [] _ _ _
  refine Rg.step 1 F_Mo_holds_0 rfl (fun _ => rfl) ?_
  refine Rg.step 2 F_Mo_holds_1 rfl (fun _ => rfl) ?_
  refine Rg.call 5 F_Mo_holds_2 rfl (one_S (by decide +kernel) rM_26_221 (by decide) (by simp) rfl rfl) (Nat.le_of_ble_eq_true rfl) (Cg.any (c_Mo_isFact (by omega))) ?_
  refine Rg.ifeqP 12 8 F_Mo_holds_5 rfl rfl (fun h5 => by omega) (fun _ => ?_)
  refine Rg.step 9 F_Mo_holds_8 rfl (fun _ => rfl) ?_
  refine Rg.step 13 F_Mo_holds_9 rfl (fun _ => rfl) ?_
  refine Rg.put 16 F_Mo_holds_13 rfl rF_26_178 (gM hp) (by decide) (Nat.le_of_ble_eq_true rfl) (Or.inl rfl) rfl (sM_code hp) ?_
  refine Rg.step 17 F_Mo_holds_16 rfl (fun _ => rfl) ?_
  refine Rg.getf 20 F_Mo_holds_17 rfl rF_26_178 (gM hp) rfl ?_
  refine Rg.ifle 25 23 F_Mo_holds_20 rfl rfl (fun _ => ?_) (fun h20 => absurd h20 (by decide))
  refine Rg.step 26 F_Mo_holds_25 rfl (fun _ => rfl) ?_
  refine Rg.getf 29 F_Mo_holds_26 rfl rF_26_320 (gM hp) rfl ?_
  refine Rg.ifeqI 41 32 F_Mo_holds_29 rfl rfl (by omega) (fun _ => ?_) (fun h29 => by omega)
  refine Rg.step 42 F_Mo_holds_41 rfl (fun _ => rfl) ?_
  refine Rg.getf 45 F_Mo_holds_42 rfl rF_26_24 (gM hp) rfl ?_
  refine Rg.step 46 F_Mo_holds_45 rfl (fun _ => rfl) ?_
  refine Rg.zld 47 F_Mo_holds_46 rfl (gR_firstFacts hp) (by omega) (by decide) ?_
  exact Rg.retP F_Mo_holds_47 rfl Iff.rfl rfl
theorem c_Mo_holds1 {d : Nat}  (hp : pre.length = 168) {f : Int} (wJ : judged = 0 ∨ judged = 1) (b_0 : -2147483648 ≤ f ∧ f < 2147483648) (h : ¬ (0 ≤ f ∧ f ≤ 15)) : Cg false (d + 2) m_Mo_holds [.ref 168, .int (iI f)] (MR pre code amountN amountD momentN momentD epsilonN epsilonD firstFacts firstN firstD wishes wants wantN wantD actions needs needTime needOf needHow needN needD changes changeTime changeOf changeHow changeN changeD lastOf lastN lastD steps stepAction startN startD lengthN lengthD rows row tried triedAction triedRows triedRow times unit facts numN numD oldFacts oldN oldD point judged fault faultPoint toldFacts toldN toldD outN outD pointN pointD gone now leastN leastD greatestN greatestD events post) (.inl (some (.int (bP False)))) (MR pre 1 amountN amountD momentN momentD epsilonN epsilonD firstFacts firstN firstD wishes wants wantN wantD actions needs needTime needOf needHow needN needD changes changeTime changeOf changeHow changeN changeD lastOf lastN lastD steps stepAction startN startD lengthN lengthD rows row tried triedAction triedRows triedRow times unit facts numN numD oldFacts oldN oldD point judged fault faultPoint toldFacts toldN toldD outN outD pointN pointD gone now leastN leastD greatestN greatestD events post) := by
  refine Cg.of (Nat.le_of_ble_eq_true rfl) ?_
  change Rg _ _ _ _ 0 [(0, .ref 168), (1, .int (iI f))] [] _ _ _
  refine Rg.step 1 F_Mo_holds_0 rfl (fun _ => rfl) ?_
  refine Rg.step 2 F_Mo_holds_1 rfl (fun _ => rfl) ?_
  refine Rg.call 5 F_Mo_holds_2 rfl (one_S (by decide +kernel) rM_26_221 (by decide) (by simp) rfl rfl) (Nat.le_of_ble_eq_true rfl) (Cg.any (c_Mo_isFact (by omega))) ?_
  refine Rg.ifeqP 12 8 F_Mo_holds_5 rfl rfl (fun _ => ?_) (fun h5 => by omega)
  refine Rg.step 13 F_Mo_holds_12 rfl (fun _ => rfl) ?_
  refine Rg.put 16 F_Mo_holds_13 rfl rF_26_178 (gM hp) (by decide) (Nat.le_of_ble_eq_true rfl) (Or.inl rfl) rfl (sM_code hp) ?_
  refine Rg.step 17 F_Mo_holds_16 rfl (fun _ => rfl) ?_
  refine Rg.getf 20 F_Mo_holds_17 rfl rF_26_178 (gM hp) rfl ?_
  refine Rg.ifle 25 23 F_Mo_holds_20 rfl rfl (fun h20 => absurd h20 (by decide)) (fun _ => ?_)
  refine Rg.step 24 F_Mo_holds_23 rfl (fun _ => rfl) ?_
  exact Rg.ret0 F_Mo_holds_24 rfl (fun z => z) rfl
end R44
