/-! The reference: one time is passed. -/
def wrongR (steps : Int) (triedAction needs needTime needHow needOf needN needD lastOf lastN lastD changes changeTime changeHow changeOf : Int → Int) (epsilonN epsilonD : Int) (pointN pointD lengthN lengthD : Int → Int) (now gone : Int → Prop) (S : NS) (why p : Int) : Prop := (why = 1 ∧ distP (intP triedAction needs needTime needHow needOf lastOf changes changeTime changeHow changeOf) epsilonN epsilonD pointN pointD (2 * steps) now gone p) ∨ (why = 2 ∧ ¬ fit needs needTime needOf needHow needN needD S.1 S.2.1 S.2.2 (triedAction (p / 2)) (tmo p)) ∨ (why = 3 ∧ p % 2 = 0 ∧ ¬ lastsOK lastOf lastN lastD S.2.1 S.2.2 (triedAction (p / 2)) (lengthN (p / 2)) (lengthD (p / 2)))
/-- the changes of all points of one time -/
noncomputable def chRow (triedAction changes changeTime changeOf changeHow changeN changeD : Int → Int) (now : Int → Prop) : Nat → Int → NS → Int ⊕ NS
  | 0, _, S => .inr S
  | n + 1, p, S => @ite _ (now p) (Classical.propDecidable _) (match chAll changeTime changeOf changeHow changeN changeD (tmo p) (changes (triedAction (p / 2))).toNat (6 * triedAction (p / 2)) S with
      | none => .inl p
      | some S1 => chRow triedAction changes changeTime changeOf changeHow changeN changeD now n (p + 1) S1)
    (chRow triedAction changes changeTime changeOf changeHow changeN changeD now n (p + 1) S)
def PassR (m : Int) (W : (Int → Prop) → (Int → Prop) → NS → Int → Int → Prop) (C : (Int → Prop) → NS → Int ⊕ NS) (O : NS → Int → Prop) (now gone : Int → Prop) (S : NS) (why pt : Int) (S1 : NS) (gone1 : Int → Prop) : Prop :=
  (1 ≤ why ∧ why ≤ 3 ∧ 0 ≤ pt ∧ pt < m ∧ now pt ∧ W now gone S why pt ∧ (∀ q, 0 ≤ q → q < pt → now q → ¬ W now gone S why q) ∧ (∀ w q, 1 ≤ w → w < why → 0 ≤ q → q < m → now q → ¬ W now gone S w q) ∧ S1 = S)
  ∨ ((∀ w q, 1 ≤ w → w ≤ 3 → 0 ≤ q → q < m → now q → ¬ W now gone S w q) ∧ ((why = 4 ∧ C now S = .inl pt ∧ S1 = S) ∨ (C now S = .inr S1 ∧ (∀ p, 0 ≤ p → p < m → (gone1 p ↔ gone p ∨ now p)) ∧
    ((why = 5 ∧ ∃ s, pt = 2 * s ∧ 0 ≤ s ∧ 2 * s < m ∧ (gone1 (2 * s) ∧ ¬ gone1 (2 * s + 1) ∧ ¬ O S1 s) ∧ ∀ r, 0 ≤ r → r < s → ¬ (gone1 (2 * r) ∧ ¬ gone1 (2 * r + 1) ∧ ¬ O S1 r)) ∨ (why = 0 ∧ ∀ r, 0 ≤ r → 2 * r < m → ¬ (gone1 (2 * r) ∧ ¬ gone1 (2 * r + 1) ∧ ¬ O S1 r))))))
section R50
variable {pre post mem : AM}
variable {code amountN amountD momentN momentD epsilonN epsilonD actions steps rows tried triedRows unit point judged fault faultPoint outN outD : Int}
variable {firstN firstD wishes wants wantN wantD needs needTime needOf needHow needN needD changes changeTime changeOf changeHow changeN changeD lastOf lastN lastD stepAction startN startD lengthN lengthD row triedAction triedRow times numN numD oldN oldD toldN toldD pointN pointD leastN leastD greatestN greatestD events : Int → Int}
variable {firstFacts facts oldFacts toldFacts gone now : Int → Prop}
theorem c_Mo_isWrong {d : Nat} (hp : pre.length = 168) (hw : WT epsilonN epsilonD wishes wants wantN wantD actions needs needTime needOf needHow needN needD changes changeTime changeOf changeHow changeN changeD lastOf lastN lastD firstN firstD) (wT : ∀ s, 0 ≤ triedAction s ∧ triedAction s < 12) (wS : 0 ≤ steps ∧ steps ≤ 12) (wQ : ∀ p, 0 ≤ p → p < 2 * steps → 0 ≤ pointN p ∧ pointN p ≤ 100000000000 ∧ 0 < pointD p ∧ pointD p ≤ 1000000) (hact : ∀ s, 0 ≤ s → s < steps → 0 ≤ triedAction s ∧ triedAction s < actions) (hlen : ∀ s, 0 ≤ s → s < steps → 0 < lengthN s ∧ lengthN s ≤ 100000000000 ∧ 0 < lengthD s ∧ lengthD s ≤ 1000000) (wN : WN numN numD) {p w : Int} (h1 : 0 ≤ p ∧ p < 2 * steps) (hx : 1 ≤ w ∧ w ≤ 3) : ∃ x1 y1, Cg false (d + 6) m_Mo_isWrong [.ref 168, .int (iI p), .int (iI w)] (MR pre code amountN amountD momentN momentD epsilonN epsilonD firstFacts firstN firstD wishes wants wantN wantD actions needs needTime needOf needHow needN needD changes changeTime changeOf changeHow changeN changeD lastOf lastN lastD steps stepAction startN startD lengthN lengthD rows row tried triedAction triedRows triedRow times unit facts numN numD oldFacts oldN oldD point judged fault faultPoint toldFacts toldN toldD outN outD pointN pointD gone now leastN leastD greatestN greatestD events post) (.inl (some (.int (bP (wrongR steps triedAction needs needTime needHow needOf needN needD lastOf lastN lastD changes changeTime changeHow changeOf epsilonN epsilonD pointN pointD lengthN lengthD now gone (facts, numN, numD) w p))))) (MR pre code amountN amountD momentN momentD epsilonN epsilonD firstFacts firstN firstD wishes wants wantN wantD actions needs needTime needOf needHow needN needD changes changeTime changeOf changeHow changeN changeD lastOf lastN lastD steps stepAction startN startD lengthN lengthD rows row tried triedAction triedRows triedRow times unit facts numN numD oldFacts oldN oldD point judged fault faultPoint toldFacts toldN toldD x1 y1 pointN pointD gone now leastN leastD greatestN greatestD events post) := by
  have a1 := hact (p / 2) (by omega) (by omega)
  have c2 := tmo_b p
  by_cases w1 : w = 1
  · subst w1
    obtain ⟨x1, y1, hg⟩ := c_Mo_isDisturbed (d := d) (pre := pre) (post := post) (now := now) (gone := gone) hp hw wT wS wQ h1
    refine ⟨x1, y1, ?_⟩
    refine Cg.of (Nat.le_of_ble_eq_true rfl) ?_
    change Rg _ _ _ _ 0 [(0, .ref 168), (1, .int (iI p)), (2, .int (iI _))] [] _ _ _
    refine Rg.step 1 F_Mo_isWrong_0 rfl (fun _ => rfl) ?_
    refine Rg.step 2 F_Mo_isWrong_1 rfl (fun _ => rfl) ?_
    refine Rg.icneI 11 5 F_Mo_isWrong_2 rfl rfl (by omega) (by omega) (fun h2 => by omega) (fun _ => ?_)
    refine Rg.step 6 F_Mo_isWrong_5 rfl (fun _ => rfl) ?_
    refine Rg.step 7 F_Mo_isWrong_6 rfl (fun _ => rfl) ?_
    refine Rg.call 10 F_Mo_isWrong_7 rfl (one_V rM_26_296 (by decide) (by simp) rfl rfl (gM hp) rfl) (Nat.le_of_ble_eq_true rfl) hg ?_
    exact Rg.retP F_Mo_isWrong_10 rfl ⟨fun z => Or.inl ⟨rfl, z⟩, fun z => z.elim (fun y => y.2) (fun y => y.elim (fun v => absurd v.1 (by omega)) (fun v => absurd v.1 (by omega)))⟩ rfl
  · by_cases w2 : w = 2
    · subst w2
      refine ⟨outN, outD, ?_⟩
      refine Cg.of (Nat.le_of_ble_eq_true rfl) ?_
      change Rg _ _ _ _ 0 [(0, .ref 168), (1, .int (iI p)), (2, .int (iI _))] [] _ _ _
      refine Rg.step 1 F_Mo_isWrong_0 rfl (fun _ => rfl) ?_
      refine Rg.step 2 F_Mo_isWrong_1 rfl (fun _ => rfl) ?_
      refine Rg.icneI 11 5 F_Mo_isWrong_2 rfl rfl (by omega) (by omega) (fun _ => ?_) (fun h2 => by omega)
      refine Rg.step 12 F_Mo_isWrong_11 rfl (fun _ => rfl) ?_
      refine Rg.step 13 F_Mo_isWrong_12 rfl (fun _ => rfl) ?_
      refine Rg.icneI 38 16 F_Mo_isWrong_13 rfl rfl (by omega) (by omega) (fun h13 => by omega) (fun _ => ?_)
      refine Rg.step 17 F_Mo_isWrong_16 rfl (fun _ => rfl) ?_
      refine Rg.step 18 F_Mo_isWrong_17 rfl (fun _ => rfl) ?_
      refine Rg.step 19 F_Mo_isWrong_18 rfl (fun _ => rfl) ?_
      refine Rg.divIp 20 F_Mo_isWrong_19 rfl (by omega) (by omega) ?_
      refine Rg.step 21 F_Mo_isWrong_20 rfl (fun _ => rfl) ?_
      refine Rg.call 24 F_Mo_isWrong_21 rfl (one_S (by decide +kernel) rM_26_248 (by decide) (by simp) rfl rfl) (Nat.le_of_ble_eq_true rfl) (Cg.any (c_Mo_timeOf (by omega))) ?_
      refine Rg.call 27 F_Mo_isWrong_24 rfl (one_V rM_26_299 (by decide) (by simp) rfl rfl (gM hp) rfl) (Nat.le_of_ble_eq_true rfl) (Cg.any (c_Mo_isFit hp hw wN (by omega) a1 (by omega))) ?_
      refine Rg.ifneP 34 30 F_Mo_isWrong_27 rfl rfl (fun h27 => ?_) (fun h27 => ?_)
      · refine Rg.step 35 F_Mo_isWrong_34 rfl (fun _ => rfl) ?_
        refine Rg.step 59 F_Mo_isWrong_35 rfl (fun _ => rfl) ?_
        exact Rg.ret0 F_Mo_isWrong_59 rfl (fun z => z.elim (fun y => absurd y.1 (by omega)) (fun y => y.elim (fun v => v.2 h27) (fun v => absurd v.1 (by omega)))) rfl
      · refine Rg.step 31 F_Mo_isWrong_30 rfl (fun _ => rfl) ?_
        refine Rg.step 59 F_Mo_isWrong_31 rfl (fun _ => rfl) ?_
        exact Rg.ret1 F_Mo_isWrong_59 rfl (Or.inr (Or.inl ⟨rfl, h27⟩)) rfl
    · have w3 : w = 3 := by omega
      subst w3
      by_cases he : p % 2 = 0
      · have l1 := hlen (p / 2) (by omega) (by omega)
        obtain ⟨x1, y1, hg⟩ := c_Mo_lastsRight (d := d + 1) (pre := pre) (post := post) hp hw wN (s := p / 2) (by omega) a1 l1
        refine ⟨x1, y1, ?_⟩
        refine Cg.of (Nat.le_of_ble_eq_true rfl) ?_
        change Rg _ _ _ _ 0 [(0, .ref 168), (1, .int (iI p)), (2, .int (iI _))] [] _ _ _
        refine Rg.step 1 F_Mo_isWrong_0 rfl (fun _ => rfl) ?_
        refine Rg.step 2 F_Mo_isWrong_1 rfl (fun _ => rfl) ?_
        refine Rg.icneI 11 5 F_Mo_isWrong_2 rfl rfl (by omega) (by omega) (fun _ => ?_) (fun h2 => by omega)
        refine Rg.step 12 F_Mo_isWrong_11 rfl (fun _ => rfl) ?_
        refine Rg.step 13 F_Mo_isWrong_12 rfl (fun _ => rfl) ?_
        refine Rg.icneI 38 16 F_Mo_isWrong_13 rfl rfl (by omega) (by omega) (fun _ => ?_) (fun h13 => by omega)
        refine Rg.step 39 F_Mo_isWrong_38 rfl (fun _ => rfl) ?_
        refine Rg.step 40 F_Mo_isWrong_39 rfl (fun _ => rfl) ?_
        refine Rg.remIp 41 F_Mo_isWrong_40 rfl (by omega) (by omega) ?_
        refine Rg.ifneI 58 44 F_Mo_isWrong_41 rfl rfl (by omega) (fun h41 => by omega) (fun _ => ?_)
        refine Rg.step 45 F_Mo_isWrong_44 rfl (fun _ => rfl) ?_
        refine Rg.step 46 F_Mo_isWrong_45 rfl (fun _ => rfl) ?_
        refine Rg.step 47 F_Mo_isWrong_46 rfl (fun _ => rfl) ?_
        refine Rg.divIp 48 F_Mo_isWrong_47 rfl (by omega) (by omega) ?_
        refine Rg.call 51 F_Mo_isWrong_48 rfl (one_V rM_26_302 (by decide) (by simp) rfl rfl (gM hp) rfl) (Nat.le_of_ble_eq_true rfl) hg ?_
        refine Rg.ifneP 58 54 F_Mo_isWrong_51 rfl rfl (fun h51 => ?_) (fun h51 => ?_)
        · refine Rg.step 59 F_Mo_isWrong_58 rfl (fun _ => rfl) ?_
          exact Rg.ret0 F_Mo_isWrong_59 rfl (fun z => z.elim (fun y => absurd y.1 (by omega)) (fun y => y.elim (fun v => absurd v.1 (by omega)) (fun v => v.2.2 h51))) rfl
        · refine Rg.step 55 F_Mo_isWrong_54 rfl (fun _ => rfl) ?_
          refine Rg.step 59 F_Mo_isWrong_55 rfl (fun _ => rfl) ?_
          exact Rg.ret1 F_Mo_isWrong_59 rfl (Or.inr (Or.inr ⟨rfl, he, h51⟩)) rfl
      · refine ⟨outN, outD, ?_⟩
        refine Cg.of (Nat.le_of_ble_eq_true rfl) ?_
        change Rg _ _ _ _ 0 [(0, .ref 168), (1, .int (iI p)), (2, .int (iI _))] [] _ _ _
        refine Rg.step 1 F_Mo_isWrong_0 rfl (fun _ => rfl) ?_
        refine Rg.step 2 F_Mo_isWrong_1 rfl (fun _ => rfl) ?_
        refine Rg.icneI 11 5 F_Mo_isWrong_2 rfl rfl (by omega) (by omega) (fun _ => ?_) (fun h2 => by omega)
        refine Rg.step 12 F_Mo_isWrong_11 rfl (fun _ => rfl) ?_
        refine Rg.step 13 F_Mo_isWrong_12 rfl (fun _ => rfl) ?_
        refine Rg.icneI 38 16 F_Mo_isWrong_13 rfl rfl (by omega) (by omega) (fun _ => ?_) (fun h13 => by omega)
        refine Rg.step 39 F_Mo_isWrong_38 rfl (fun _ => rfl) ?_
        refine Rg.step 40 F_Mo_isWrong_39 rfl (fun _ => rfl) ?_
        refine Rg.remIp 41 F_Mo_isWrong_40 rfl (by omega) (by omega) ?_
        refine Rg.ifneI 58 44 F_Mo_isWrong_41 rfl rfl (by omega) (fun _ => ?_) (fun h41 => by omega)
        refine Rg.step 59 F_Mo_isWrong_58 rfl (fun _ => rfl) ?_
        exact Rg.ret0 F_Mo_isWrong_59 rfl (fun z => z.elim (fun y => absurd y.1 (by omega)) (fun y => y.elim (fun v => absurd v.1 (by omega)) (fun v => he v.2.1))) rfl
theorem pass_none {d n0 : Nat} (hp : pre.length = 168) (hw : WT epsilonN epsilonD wishes wants wantN wantD actions needs needTime needOf needHow needN needD changes changeTime changeOf changeHow changeN changeD lastOf lastN lastD firstN firstD) (wT : ∀ s, 0 ≤ triedAction s ∧ triedAction s < 12) (wS : 0 ≤ steps ∧ steps ≤ 12) (wQ : ∀ p, 0 ≤ p → p < 2 * steps → 0 ≤ pointN p ∧ pointN p ≤ 100000000000 ∧ 0 < pointD p ∧ pointD p ≤ 1000000) (hact : ∀ s, 0 ≤ s → s < steps → 0 ≤ triedAction s ∧ triedAction s < actions) (hlen : ∀ s, 0 ≤ s → s < steps → 0 < lengthN s ∧ lengthN s ≤ 100000000000 ∧ 0 < lengthD s ∧ lengthD s ≤ 1000000) (wN : WN numN numD) {w : Int} (hx : 1 ≤ w ∧ w ≤ 3) : ∀ (n : Nat) (k x y : Int), k + n = 2 * steps → 0 ≤ k → (∀ q, k ≤ q → q < 2 * steps → now q → ¬ wrongR steps triedAction needs needTime needHow needOf needN needD lastOf lastN lastD changes changeTime changeHow changeOf epsilonN epsilonD pointN pointD lengthN lengthD now gone (facts, numN, numD) w q) → ∃ x1 y1, ∀ o mem1, Rg false (d + 7) m_Mo_passed n0 64 [(1, .int (iI w)), (0, .ref 168)] [] (MR pre code amountN amountD momentN momentD epsilonN epsilonD firstFacts firstN firstD wishes wants wantN wantD actions needs needTime needOf needHow needN needD changes changeTime changeOf changeHow changeN changeD lastOf lastN lastD steps stepAction startN startD lengthN lengthD rows row tried triedAction triedRows triedRow times unit facts numN numD oldFacts oldN oldD (2 * steps) judged fault faultPoint toldFacts toldN toldD x1 y1 pointN pointD gone now leastN leastD greatestN greatestD events post) o mem1 → Rg false (d + 7) m_Mo_passed n0 12 [(1, .int (iI w)), (0, .ref 168)] [] (MR pre code amountN amountD momentN momentD epsilonN epsilonD firstFacts firstN firstD wishes wants wantN wantD actions needs needTime needOf needHow needN needD changes changeTime changeOf changeHow changeN changeD lastOf lastN lastD steps stepAction startN startD lengthN lengthD rows row tried triedAction triedRows triedRow times unit facts numN numD oldFacts oldN oldD k judged fault faultPoint toldFacts toldN toldD x y pointN pointD gone now leastN leastD greatestN greatestD events post) o mem1 := by
  intro n
  induction n with
  | zero =>
    intro k x y hk hk2 hn
    refine ⟨x, y, fun o mem1 hg => ?_⟩
    have hk : k = 2 * steps := by omega
    subst hk
    refine Rg.step 13 F_Mo_passed_12 rfl (fun _ => rfl) ?_
    refine Rg.getf 16 F_Mo_passed_13 rfl rF_26_305 (gM hp) rfl ?_
    refine Rg.step 17 F_Mo_passed_16 rfl (fun _ => rfl) ?_
    refine Rg.step 18 F_Mo_passed_17 rfl (fun _ => rfl) ?_
    refine Rg.getf 21 F_Mo_passed_18 rfl rF_26_242 (gM hp) rfl ?_
    refine Rg.mulI 22 F_Mo_passed_21 rfl ?_
    refine Rg.icgeI 64 25 F_Mo_passed_22 rfl rfl (by omega) (by omega) (fun _ => ?_) (fun h22 => by omega)
    exact Rg.weak hg (by simp [lput1, lput2, Value.category, fi0, fi1, fi2, fi3] <;> first | rfl | exact ⟨rfl, rfl⟩) (by simp [lput1, lput2, Value.category, fi0, fi1, fi2, fi3] <;> first | rfl | exact ⟨rfl, rfl⟩)
  | succ n ih =>
    intro k x y hk hk2 hn
    by_cases hk3 : now k
    · obtain ⟨x0, y0, hc⟩ := c_Mo_isWrong (d := d) (pre := pre) (post := post) (now := now) (gone := gone) (point := k) (outN := x) (outD := y) hp hw wT wS wQ hact hlen wN (p := k) (by omega) hx
      obtain ⟨x1, y1, ht⟩ := ih (k + 1) x0 y0 (by omega) (by omega) (fun q z1 z2 => hn q (by omega) z2)
      refine ⟨x1, y1, fun o mem1 hg => ?_⟩
      refine Rg.step 13 F_Mo_passed_12 rfl (fun _ => rfl) ?_
      refine Rg.getf 16 F_Mo_passed_13 rfl rF_26_305 (gM hp) rfl ?_
      refine Rg.step 17 F_Mo_passed_16 rfl (fun _ => rfl) ?_
      refine Rg.step 18 F_Mo_passed_17 rfl (fun _ => rfl) ?_
      refine Rg.getf 21 F_Mo_passed_18 rfl rF_26_242 (gM hp) rfl ?_
      refine Rg.mulI 22 F_Mo_passed_21 rfl ?_
      refine Rg.icgeI 64 25 F_Mo_passed_22 rfl rfl (by omega) (by omega) (fun h22 => by omega) (fun _ => ?_)
      refine Rg.step 26 F_Mo_passed_25 rfl (fun _ => rfl) ?_
      refine Rg.getf 29 F_Mo_passed_26 rfl rF_26_160 (gM hp) rfl ?_
      refine Rg.step 30 F_Mo_passed_29 rfl (fun _ => rfl) ?_
      refine Rg.getf 33 F_Mo_passed_30 rfl rF_26_305 (gM hp) rfl ?_
      refine Rg.zld 34 F_Mo_passed_33 rfl (gR_now hp) (by omega) (by decide) ?_
      refine Rg.ifeqP 51 37 F_Mo_passed_34 rfl rfl (fun h34 => absurd hk3 h34) (fun _ => ?_)
      refine Rg.step 38 F_Mo_passed_37 rfl (fun _ => rfl) ?_
      refine Rg.step 39 F_Mo_passed_38 rfl (fun _ => rfl) ?_
      refine Rg.getf 42 F_Mo_passed_39 rfl rF_26_305 (gM hp) rfl ?_
      refine Rg.step 43 F_Mo_passed_42 rfl (fun _ => rfl) ?_
      refine Rg.call 46 F_Mo_passed_43 rfl (one_V rM_26_308 (by decide) (by simp) rfl rfl (gM hp) rfl) (Nat.le_of_ble_eq_true rfl) hc ?_
      refine Rg.ifeqP 51 49 F_Mo_passed_46 rfl rfl (fun _ => ?_) (fun h46 => absurd h46 (hn k (by omega) (by omega) hk3))
      refine Rg.step 52 F_Mo_passed_51 rfl (fun _ => rfl) ?_
      refine Rg.step 53 F_Mo_passed_52 rfl (fun _ => rfl) ?_
      refine Rg.getf 56 F_Mo_passed_53 rfl rF_26_305 (gM hp) rfl ?_
      refine Rg.step 57 F_Mo_passed_56 rfl (fun _ => rfl) ?_
      refine Rg.addI 58 F_Mo_passed_57 rfl ?_
      refine Rg.put 61 F_Mo_passed_58 rfl rF_26_305 (gM hp) (by decide) (Nat.le_of_ble_eq_true rfl) (Or.inl rfl) rfl (sM_point hp) ?_
      refine Rg.step 12 F_Mo_passed_61 rfl (fun _ => rfl) ?_
      exact Rg.weak (ht o mem1 hg) (by simp [lput1, lput2, Value.category, fi0, fi1, fi2, fi3] <;> first | rfl | exact ⟨rfl, rfl⟩) (by simp [lput1, lput2, Value.category, fi0, fi1, fi2, fi3] <;> first | rfl | exact ⟨rfl, rfl⟩)
    · obtain ⟨x1, y1, ht⟩ := ih (k + 1) x y (by omega) (by omega) (fun q z1 z2 => hn q (by omega) z2)
      refine ⟨x1, y1, fun o mem1 hg => ?_⟩
      refine Rg.step 13 F_Mo_passed_12 rfl (fun _ => rfl) ?_
      refine Rg.getf 16 F_Mo_passed_13 rfl rF_26_305 (gM hp) rfl ?_
      refine Rg.step 17 F_Mo_passed_16 rfl (fun _ => rfl) ?_
      refine Rg.step 18 F_Mo_passed_17 rfl (fun _ => rfl) ?_
      refine Rg.getf 21 F_Mo_passed_18 rfl rF_26_242 (gM hp) rfl ?_
      refine Rg.mulI 22 F_Mo_passed_21 rfl ?_
      refine Rg.icgeI 64 25 F_Mo_passed_22 rfl rfl (by omega) (by omega) (fun h22 => by omega) (fun _ => ?_)
      refine Rg.step 26 F_Mo_passed_25 rfl (fun _ => rfl) ?_
      refine Rg.getf 29 F_Mo_passed_26 rfl rF_26_160 (gM hp) rfl ?_
      refine Rg.step 30 F_Mo_passed_29 rfl (fun _ => rfl) ?_
      refine Rg.getf 33 F_Mo_passed_30 rfl rF_26_305 (gM hp) rfl ?_
      refine Rg.zld 34 F_Mo_passed_33 rfl (gR_now hp) (by omega) (by decide) ?_
      refine Rg.ifeqP 51 37 F_Mo_passed_34 rfl rfl (fun _ => ?_) (fun h34 => absurd h34 hk3)
      refine Rg.step 52 F_Mo_passed_51 rfl (fun _ => rfl) ?_
      refine Rg.step 53 F_Mo_passed_52 rfl (fun _ => rfl) ?_
      refine Rg.getf 56 F_Mo_passed_53 rfl rF_26_305 (gM hp) rfl ?_
      refine Rg.step 57 F_Mo_passed_56 rfl (fun _ => rfl) ?_
      refine Rg.addI 58 F_Mo_passed_57 rfl ?_
      refine Rg.put 61 F_Mo_passed_58 rfl rF_26_305 (gM hp) (by decide) (Nat.le_of_ble_eq_true rfl) (Or.inl rfl) rfl (sM_point hp) ?_
      refine Rg.step 12 F_Mo_passed_61 rfl (fun _ => rfl) ?_
      exact Rg.weak (ht o mem1 hg) (by simp [lput1, lput2, Value.category, fi0, fi1, fi2, fi3] <;> first | rfl | exact ⟨rfl, rfl⟩) (by simp [lput1, lput2, Value.category, fi0, fi1, fi2, fi3] <;> first | rfl | exact ⟨rfl, rfl⟩)
theorem pass_found {d n0 : Nat} (hp : pre.length = 168) (hw : WT epsilonN epsilonD wishes wants wantN wantD actions needs needTime needOf needHow needN needD changes changeTime changeOf changeHow changeN changeD lastOf lastN lastD firstN firstD) (wT : ∀ s, 0 ≤ triedAction s ∧ triedAction s < 12) (wS : 0 ≤ steps ∧ steps ≤ 12) (wQ : ∀ p, 0 ≤ p → p < 2 * steps → 0 ≤ pointN p ∧ pointN p ≤ 100000000000 ∧ 0 < pointD p ∧ pointD p ≤ 1000000) (hact : ∀ s, 0 ≤ s → s < steps → 0 ≤ triedAction s ∧ triedAction s < actions) (hlen : ∀ s, 0 ≤ s → s < steps → 0 < lengthN s ∧ lengthN s ≤ 100000000000 ∧ 0 < lengthD s ∧ lengthD s ≤ 1000000) (wN : WN numN numD) {w p : Int} (hx : 1 ≤ w ∧ w ≤ 3) (hp2 : p < 2 * steps) (hnow : now p) (hW : wrongR steps triedAction needs needTime needHow needOf needN needD lastOf lastN lastD changes changeTime changeHow changeOf epsilonN epsilonD pointN pointD lengthN lengthD now gone (facts, numN, numD) w p) : ∀ (n : Nat) (k x y : Int), k + n = p → 0 ≤ k → (∀ q, k ≤ q → q < p → now q → ¬ wrongR steps triedAction needs needTime needHow needOf needN needD lastOf lastN lastD changes changeTime changeHow changeOf epsilonN epsilonD pointN pointD lengthN lengthD now gone (facts, numN, numD) w q) → ∃ x1 y1, Rg false (d + 7) m_Mo_passed n0 12 [(1, .int (iI w)), (0, .ref 168)] [] (MR pre code amountN amountD momentN momentD epsilonN epsilonD firstFacts firstN firstD wishes wants wantN wantD actions needs needTime needOf needHow needN needD changes changeTime changeOf changeHow changeN changeD lastOf lastN lastD steps stepAction startN startD lengthN lengthD rows row tried triedAction triedRows triedRow times unit facts numN numD oldFacts oldN oldD k judged fault faultPoint toldFacts toldN toldD x y pointN pointD gone now leastN leastD greatestN greatestD events post) (.inl (some (.int (iI w)))) (MR pre code amountN amountD momentN momentD epsilonN epsilonD firstFacts firstN firstD wishes wants wantN wantD actions needs needTime needOf needHow needN needD changes changeTime changeOf changeHow changeN changeD lastOf lastN lastD steps stepAction startN startD lengthN lengthD rows row tried triedAction triedRows triedRow times unit facts numN numD oldFacts oldN oldD p judged fault faultPoint toldFacts toldN toldD x1 y1 pointN pointD gone now leastN leastD greatestN greatestD events post) := by
  intro n
  induction n with
  | zero =>
    intro k x y hk hk2 hn
    have hk : k = p := by omega
    subst hk
    obtain ⟨x0, y0, hc⟩ := c_Mo_isWrong (d := d) (pre := pre) (post := post) (now := now) (gone := gone) (point := k) (outN := x) (outD := y) hp hw wT wS wQ hact hlen wN (p := k) (by omega) hx
    refine ⟨x0, y0, ?_⟩
    refine Rg.step 13 F_Mo_passed_12 rfl (fun _ => rfl) ?_
    refine Rg.getf 16 F_Mo_passed_13 rfl rF_26_305 (gM hp) rfl ?_
    refine Rg.step 17 F_Mo_passed_16 rfl (fun _ => rfl) ?_
    refine Rg.step 18 F_Mo_passed_17 rfl (fun _ => rfl) ?_
    refine Rg.getf 21 F_Mo_passed_18 rfl rF_26_242 (gM hp) rfl ?_
    refine Rg.mulI 22 F_Mo_passed_21 rfl ?_
    refine Rg.icgeI 64 25 F_Mo_passed_22 rfl rfl (by omega) (by omega) (fun h22 => by omega) (fun _ => ?_)
    refine Rg.step 26 F_Mo_passed_25 rfl (fun _ => rfl) ?_
    refine Rg.getf 29 F_Mo_passed_26 rfl rF_26_160 (gM hp) rfl ?_
    refine Rg.step 30 F_Mo_passed_29 rfl (fun _ => rfl) ?_
    refine Rg.getf 33 F_Mo_passed_30 rfl rF_26_305 (gM hp) rfl ?_
    refine Rg.zld 34 F_Mo_passed_33 rfl (gR_now hp) (by omega) (by decide) ?_
    refine Rg.ifeqP 51 37 F_Mo_passed_34 rfl rfl (fun h34 => absurd hnow h34) (fun _ => ?_)
    refine Rg.step 38 F_Mo_passed_37 rfl (fun _ => rfl) ?_
    refine Rg.step 39 F_Mo_passed_38 rfl (fun _ => rfl) ?_
    refine Rg.getf 42 F_Mo_passed_39 rfl rF_26_305 (gM hp) rfl ?_
    refine Rg.step 43 F_Mo_passed_42 rfl (fun _ => rfl) ?_
    refine Rg.call 46 F_Mo_passed_43 rfl (one_V rM_26_308 (by decide) (by simp) rfl rfl (gM hp) rfl) (Nat.le_of_ble_eq_true rfl) hc ?_
    refine Rg.ifeqP 51 49 F_Mo_passed_46 rfl rfl (fun h46 => absurd hW h46) (fun _ => ?_)
    refine Rg.step 50 F_Mo_passed_49 rfl (fun _ => rfl) ?_
    exact Rg.retI F_Mo_passed_50 rfl rfl rfl
  | succ n ih =>
    intro k x y hk hk2 hn
    by_cases hk3 : now k
    · obtain ⟨x0, y0, hc⟩ := c_Mo_isWrong (d := d) (pre := pre) (post := post) (now := now) (gone := gone) (point := k) (outN := x) (outD := y) hp hw wT wS wQ hact hlen wN (p := k) (by omega) hx
      obtain ⟨x1, y1, ht⟩ := ih (k + 1) x0 y0 (by omega) (by omega) (fun q z1 z2 => hn q (by omega) z2)
      refine ⟨x1, y1, ?_⟩
      refine Rg.step 13 F_Mo_passed_12 rfl (fun _ => rfl) ?_
      refine Rg.getf 16 F_Mo_passed_13 rfl rF_26_305 (gM hp) rfl ?_
      refine Rg.step 17 F_Mo_passed_16 rfl (fun _ => rfl) ?_
      refine Rg.step 18 F_Mo_passed_17 rfl (fun _ => rfl) ?_
      refine Rg.getf 21 F_Mo_passed_18 rfl rF_26_242 (gM hp) rfl ?_
      refine Rg.mulI 22 F_Mo_passed_21 rfl ?_
      refine Rg.icgeI 64 25 F_Mo_passed_22 rfl rfl (by omega) (by omega) (fun h22 => by omega) (fun _ => ?_)
      refine Rg.step 26 F_Mo_passed_25 rfl (fun _ => rfl) ?_
      refine Rg.getf 29 F_Mo_passed_26 rfl rF_26_160 (gM hp) rfl ?_
      refine Rg.step 30 F_Mo_passed_29 rfl (fun _ => rfl) ?_
      refine Rg.getf 33 F_Mo_passed_30 rfl rF_26_305 (gM hp) rfl ?_
      refine Rg.zld 34 F_Mo_passed_33 rfl (gR_now hp) (by omega) (by decide) ?_
      refine Rg.ifeqP 51 37 F_Mo_passed_34 rfl rfl (fun h34 => absurd hk3 h34) (fun _ => ?_)
      refine Rg.step 38 F_Mo_passed_37 rfl (fun _ => rfl) ?_
      refine Rg.step 39 F_Mo_passed_38 rfl (fun _ => rfl) ?_
      refine Rg.getf 42 F_Mo_passed_39 rfl rF_26_305 (gM hp) rfl ?_
      refine Rg.step 43 F_Mo_passed_42 rfl (fun _ => rfl) ?_
      refine Rg.call 46 F_Mo_passed_43 rfl (one_V rM_26_308 (by decide) (by simp) rfl rfl (gM hp) rfl) (Nat.le_of_ble_eq_true rfl) hc ?_
      refine Rg.ifeqP 51 49 F_Mo_passed_46 rfl rfl (fun _ => ?_) (fun h46 => absurd h46 (hn k (by omega) (by omega) hk3))
      refine Rg.step 52 F_Mo_passed_51 rfl (fun _ => rfl) ?_
      refine Rg.step 53 F_Mo_passed_52 rfl (fun _ => rfl) ?_
      refine Rg.getf 56 F_Mo_passed_53 rfl rF_26_305 (gM hp) rfl ?_
      refine Rg.step 57 F_Mo_passed_56 rfl (fun _ => rfl) ?_
      refine Rg.addI 58 F_Mo_passed_57 rfl ?_
      refine Rg.put 61 F_Mo_passed_58 rfl rF_26_305 (gM hp) (by decide) (Nat.le_of_ble_eq_true rfl) (Or.inl rfl) rfl (sM_point hp) ?_
      refine Rg.step 12 F_Mo_passed_61 rfl (fun _ => rfl) ?_
      exact Rg.weak ht (by simp [lput1, lput2, Value.category, fi0, fi1, fi2, fi3] <;> first | rfl | exact ⟨rfl, rfl⟩) (by simp [lput1, lput2, Value.category, fi0, fi1, fi2, fi3] <;> first | rfl | exact ⟨rfl, rfl⟩)
    · obtain ⟨x1, y1, ht⟩ := ih (k + 1) x y (by omega) (by omega) (fun q z1 z2 => hn q (by omega) z2)
      refine ⟨x1, y1, ?_⟩
      refine Rg.step 13 F_Mo_passed_12 rfl (fun _ => rfl) ?_
      refine Rg.getf 16 F_Mo_passed_13 rfl rF_26_305 (gM hp) rfl ?_
      refine Rg.step 17 F_Mo_passed_16 rfl (fun _ => rfl) ?_
      refine Rg.step 18 F_Mo_passed_17 rfl (fun _ => rfl) ?_
      refine Rg.getf 21 F_Mo_passed_18 rfl rF_26_242 (gM hp) rfl ?_
      refine Rg.mulI 22 F_Mo_passed_21 rfl ?_
      refine Rg.icgeI 64 25 F_Mo_passed_22 rfl rfl (by omega) (by omega) (fun h22 => by omega) (fun _ => ?_)
      refine Rg.step 26 F_Mo_passed_25 rfl (fun _ => rfl) ?_
      refine Rg.getf 29 F_Mo_passed_26 rfl rF_26_160 (gM hp) rfl ?_
      refine Rg.step 30 F_Mo_passed_29 rfl (fun _ => rfl) ?_
      refine Rg.getf 33 F_Mo_passed_30 rfl rF_26_305 (gM hp) rfl ?_
      refine Rg.zld 34 F_Mo_passed_33 rfl (gR_now hp) (by omega) (by decide) ?_
      refine Rg.ifeqP 51 37 F_Mo_passed_34 rfl rfl (fun _ => ?_) (fun h34 => absurd h34 hk3)
      refine Rg.step 52 F_Mo_passed_51 rfl (fun _ => rfl) ?_
      refine Rg.step 53 F_Mo_passed_52 rfl (fun _ => rfl) ?_
      refine Rg.getf 56 F_Mo_passed_53 rfl rF_26_305 (gM hp) rfl ?_
      refine Rg.step 57 F_Mo_passed_56 rfl (fun _ => rfl) ?_
      refine Rg.addI 58 F_Mo_passed_57 rfl ?_
      refine Rg.put 61 F_Mo_passed_58 rfl rF_26_305 (gM hp) (by decide) (Nat.le_of_ble_eq_true rfl) (Or.inl rfl) rfl (sM_point hp) ?_
      refine Rg.step 12 F_Mo_passed_61 rfl (fun _ => rfl) ?_
      exact Rg.weak ht (by simp [lput1, lput2, Value.category, fi0, fi1, fi2, fi3] <;> first | rfl | exact ⟨rfl, rfl⟩) (by simp [lput1, lput2, Value.category, fi0, fi1, fi2, fi3] <;> first | rfl | exact ⟨rfl, rfl⟩)
theorem pass_ch {d n0 : Nat} (hp : pre.length = 168) (hw : WT epsilonN epsilonD wishes wants wantN wantD actions needs needTime needOf needHow needN needD changes changeTime changeOf changeHow changeN changeD lastOf lastN lastD firstN firstD) (wT : ∀ s, 0 ≤ triedAction s ∧ triedAction s < 12) (wS : 0 ≤ steps ∧ steps ≤ 12) (wQ : ∀ p, 0 ≤ p → p < 2 * steps → 0 ≤ pointN p ∧ pointN p ≤ 100000000000 ∧ 0 < pointD p ∧ pointD p ≤ 1000000) (hact : ∀ s, 0 ≤ s → s < steps → 0 ≤ triedAction s ∧ triedAction s < actions) (hlen : ∀ s, 0 ≤ s → s < steps → 0 < lengthN s ∧ lengthN s ≤ 100000000000 ∧ 0 < lengthD s ∧ lengthD s ≤ 1000000) {F1 : Int → Prop} {N1 D1 : Int → Int} : ∀ (n : Nat) (k : Int) (F : Int → Prop) (N D : Int → Int) (x y : Int), k + n = 2 * steps → 0 ≤ k → WN N D → chRow triedAction changes changeTime changeOf changeHow changeN changeD now n k (F, N, D) = .inr (F1, N1, D1) → WN N1 D1 ∧ ∃ x1 y1, ∀ o mem1, Rg false (d + 7) m_Mo_passed n0 137 [(0, .ref 168)] [] (MR pre code amountN amountD momentN momentD epsilonN epsilonD firstFacts firstN firstD wishes wants wantN wantD actions needs needTime needOf needHow needN needD changes changeTime changeOf changeHow changeN changeD lastOf lastN lastD steps stepAction startN startD lengthN lengthD rows row tried triedAction triedRows triedRow times unit F1 N1 D1 oldFacts oldN oldD (2 * steps) judged fault faultPoint toldFacts toldN toldD x1 y1 pointN pointD gone now leastN leastD greatestN greatestD events post) o mem1 → Rg false (d + 7) m_Mo_passed n0 79 [(0, .ref 168)] [] (MR pre code amountN amountD momentN momentD epsilonN epsilonD firstFacts firstN firstD wishes wants wantN wantD actions needs needTime needOf needHow needN needD changes changeTime changeOf changeHow changeN changeD lastOf lastN lastD steps stepAction startN startD lengthN lengthD rows row tried triedAction triedRows triedRow times unit F N D oldFacts oldN oldD k judged fault faultPoint toldFacts toldN toldD x y pointN pointD gone now leastN leastD greatestN greatestD events post) o mem1 := by
  intro n
  induction n with
  | zero =>
    intro k F N D x y hk hk2 wN hc
    cases hc
    refine ⟨wN, x, y, fun o mem1 hg => ?_⟩
    have hk : k = 2 * steps := by omega
    subst hk
    refine Rg.step 80 F_Mo_passed_79 rfl (fun _ => rfl) ?_
    refine Rg.getf 83 F_Mo_passed_80 rfl rF_26_305 (gM hp) rfl ?_
    refine Rg.step 84 F_Mo_passed_83 rfl (fun _ => rfl) ?_
    refine Rg.step 85 F_Mo_passed_84 rfl (fun _ => rfl) ?_
    refine Rg.getf 88 F_Mo_passed_85 rfl rF_26_242 (gM hp) rfl ?_
    refine Rg.mulI 89 F_Mo_passed_88 rfl ?_
    refine Rg.icgeI 137 92 F_Mo_passed_89 rfl rfl (by omega) (by omega) (fun _ => ?_) (fun h89 => by omega)
    exact Rg.weak hg (by simp [lput1, lput2, Value.category, fi0, fi1, fi2, fi3] <;> first | rfl | exact ⟨rfl, rfl⟩) (by simp [lput1, lput2, Value.category, fi0, fi1, fi2, fi3] <;> first | rfl | exact ⟨rfl, rfl⟩)
  | succ n ih =>
    intro k F N D x y hk hk2 wN hc
    have a1 := hact (k / 2) (by omega) (by omega)
    rw [chRow] at hc
    by_cases hk3 : now k
    · rw [if_pos hk3] at hc
      cases hS : chAll changeTime changeOf changeHow changeN changeD (tmo k) (changes (triedAction (k / 2))).toNat (6 * (triedAction (k / 2))) (F, N, D) with
      | none => rw [hS] at hc; cases hc
      | some S1 =>
        rw [hS] at hc
        obtain ⟨F0, N0, D0⟩ := S1
        obtain ⟨w0, x0, y0, hca⟩ := c_Mo_allChanged (d := d + 2) (pre := pre) (post := post) (point := k) (outN := x) (outD := y) hp hw (p := k) (by omega) a1 wN hS
        obtain ⟨w1, x1, y1, ht⟩ := ih (k + 1) F0 N0 D0 x0 y0 (by omega) (by omega) w0 hc
        refine ⟨w1, x1, y1, fun o mem1 hg => ?_⟩
        refine Rg.step 80 F_Mo_passed_79 rfl (fun _ => rfl) ?_
        refine Rg.getf 83 F_Mo_passed_80 rfl rF_26_305 (gM hp) rfl ?_
        refine Rg.step 84 F_Mo_passed_83 rfl (fun _ => rfl) ?_
        refine Rg.step 85 F_Mo_passed_84 rfl (fun _ => rfl) ?_
        refine Rg.getf 88 F_Mo_passed_85 rfl rF_26_242 (gM hp) rfl ?_
        refine Rg.mulI 89 F_Mo_passed_88 rfl ?_
        refine Rg.icgeI 137 92 F_Mo_passed_89 rfl rfl (by omega) (by omega) (fun h89 => by omega) (fun _ => ?_)
        refine Rg.step 93 F_Mo_passed_92 rfl (fun _ => rfl) ?_
        refine Rg.getf 96 F_Mo_passed_93 rfl rF_26_160 (gM hp) rfl ?_
        refine Rg.step 97 F_Mo_passed_96 rfl (fun _ => rfl) ?_
        refine Rg.getf 100 F_Mo_passed_97 rfl rF_26_305 (gM hp) rfl ?_
        refine Rg.zld 101 F_Mo_passed_100 rfl (gR_now hp) (by omega) (by decide) ?_
        refine Rg.ifeqP 124 104 F_Mo_passed_101 rfl rfl (fun h101 => absurd hk3 h101) (fun _ => ?_)
        refine Rg.step 105 F_Mo_passed_104 rfl (fun _ => rfl) ?_
        refine Rg.step 106 F_Mo_passed_105 rfl (fun _ => rfl) ?_
        refine Rg.getf 109 F_Mo_passed_106 rfl rF_26_305 (gM hp) rfl ?_
        refine Rg.call 112 F_Mo_passed_109 rfl (one_V rM_26_314 (by decide) (by simp) rfl rfl (gM hp) rfl) (Nat.le_of_ble_eq_true rfl) hca ?_
        refine Rg.ifeqP 118 115 F_Mo_passed_112 rfl rfl (fun h112 => absurd trivial h112) (fun _ => ?_)
        refine Rg.step 124 F_Mo_passed_115 rfl (fun _ => rfl) ?_
        refine Rg.step 125 F_Mo_passed_124 rfl (fun _ => rfl) ?_
        refine Rg.step 126 F_Mo_passed_125 rfl (fun _ => rfl) ?_
        refine Rg.getf 129 F_Mo_passed_126 rfl rF_26_305 (gM hp) rfl ?_
        refine Rg.step 130 F_Mo_passed_129 rfl (fun _ => rfl) ?_
        refine Rg.addI 131 F_Mo_passed_130 rfl ?_
        refine Rg.put 134 F_Mo_passed_131 rfl rF_26_305 (gM hp) (by decide) (Nat.le_of_ble_eq_true rfl) (Or.inl rfl) rfl (sM_point hp) ?_
        refine Rg.step 79 F_Mo_passed_134 rfl (fun _ => rfl) ?_
        exact Rg.weak (ht o mem1 hg) (by simp [lput1, lput2, Value.category, fi0, fi1, fi2, fi3] <;> first | rfl | exact ⟨rfl, rfl⟩) (by simp [lput1, lput2, Value.category, fi0, fi1, fi2, fi3] <;> first | rfl | exact ⟨rfl, rfl⟩)
    · rw [if_neg hk3] at hc
      obtain ⟨w1, x1, y1, ht⟩ := ih (k + 1) F N D x y (by omega) (by omega) wN hc
      refine ⟨w1, x1, y1, fun o mem1 hg => ?_⟩
      refine Rg.step 80 F_Mo_passed_79 rfl (fun _ => rfl) ?_
      refine Rg.getf 83 F_Mo_passed_80 rfl rF_26_305 (gM hp) rfl ?_
      refine Rg.step 84 F_Mo_passed_83 rfl (fun _ => rfl) ?_
      refine Rg.step 85 F_Mo_passed_84 rfl (fun _ => rfl) ?_
      refine Rg.getf 88 F_Mo_passed_85 rfl rF_26_242 (gM hp) rfl ?_
      refine Rg.mulI 89 F_Mo_passed_88 rfl ?_
      refine Rg.icgeI 137 92 F_Mo_passed_89 rfl rfl (by omega) (by omega) (fun h89 => by omega) (fun _ => ?_)
      refine Rg.step 93 F_Mo_passed_92 rfl (fun _ => rfl) ?_
      refine Rg.getf 96 F_Mo_passed_93 rfl rF_26_160 (gM hp) rfl ?_
      refine Rg.step 97 F_Mo_passed_96 rfl (fun _ => rfl) ?_
      refine Rg.getf 100 F_Mo_passed_97 rfl rF_26_305 (gM hp) rfl ?_
      refine Rg.zld 101 F_Mo_passed_100 rfl (gR_now hp) (by omega) (by decide) ?_
      refine Rg.ifeqP 124 104 F_Mo_passed_101 rfl rfl (fun _ => ?_) (fun h101 => absurd h101 hk3)
      refine Rg.step 125 F_Mo_passed_124 rfl (fun _ => rfl) ?_
      refine Rg.step 126 F_Mo_passed_125 rfl (fun _ => rfl) ?_
      refine Rg.getf 129 F_Mo_passed_126 rfl rF_26_305 (gM hp) rfl ?_
      refine Rg.step 130 F_Mo_passed_129 rfl (fun _ => rfl) ?_
      refine Rg.addI 131 F_Mo_passed_130 rfl ?_
      refine Rg.put 134 F_Mo_passed_131 rfl rF_26_305 (gM hp) (by decide) (Nat.le_of_ble_eq_true rfl) (Or.inl rfl) rfl (sM_point hp) ?_
      refine Rg.step 79 F_Mo_passed_134 rfl (fun _ => rfl) ?_
      exact Rg.weak (ht o mem1 hg) (by simp [lput1, lput2, Value.category, fi0, fi1, fi2, fi3] <;> first | rfl | exact ⟨rfl, rfl⟩) (by simp [lput1, lput2, Value.category, fi0, fi1, fi2, fi3] <;> first | rfl | exact ⟨rfl, rfl⟩)
theorem pass_ch4 {d n0 : Nat} (hp : pre.length = 168) (hw : WT epsilonN epsilonD wishes wants wantN wantD actions needs needTime needOf needHow needN needD changes changeTime changeOf changeHow changeN changeD lastOf lastN lastD firstN firstD) (wT : ∀ s, 0 ≤ triedAction s ∧ triedAction s < 12) (wS : 0 ≤ steps ∧ steps ≤ 12) (wQ : ∀ p, 0 ≤ p → p < 2 * steps → 0 ≤ pointN p ∧ pointN p ≤ 100000000000 ∧ 0 < pointD p ∧ pointD p ≤ 1000000) (hact : ∀ s, 0 ≤ s → s < steps → 0 ≤ triedAction s ∧ triedAction s < actions) (hlen : ∀ s, 0 ≤ s → s < steps → 0 < lengthN s ∧ lengthN s ≤ 100000000000 ∧ 0 < lengthD s ∧ lengthD s ≤ 1000000) {p : Int} : ∀ (n : Nat) (k : Int) (F : Int → Prop) (N D : Int → Int) (x y : Int), k + n = 2 * steps → 0 ≤ k → WN N D → chRow triedAction changes changeTime changeOf changeHow changeN changeD now n k (F, N, D) = .inl p → ∃ x1 y1, Rg false (d + 7) m_Mo_passed n0 79 [(0, .ref 168)] [] (MR pre code amountN amountD momentN momentD epsilonN epsilonD firstFacts firstN firstD wishes wants wantN wantD actions needs needTime needOf needHow needN needD changes changeTime changeOf changeHow changeN changeD lastOf lastN lastD steps stepAction startN startD lengthN lengthD rows row tried triedAction triedRows triedRow times unit F N D oldFacts oldN oldD k judged fault faultPoint toldFacts toldN toldD x y pointN pointD gone now leastN leastD greatestN greatestD events post) (.inl (some (.int (iI 4)))) (MR pre code amountN amountD momentN momentD epsilonN epsilonD firstFacts firstN firstD wishes wants wantN wantD actions needs needTime needOf needHow needN needD changes changeTime changeOf changeHow changeN changeD lastOf lastN lastD steps stepAction startN startD lengthN lengthD rows row tried triedAction triedRows triedRow times unit oldFacts oldN oldD oldFacts oldN oldD p judged fault faultPoint toldFacts toldN toldD x1 y1 pointN pointD gone now leastN leastD greatestN greatestD events post) := by
  intro n
  induction n with
  | zero =>
    intro k F N D x y hk hk2 wN hc
    cases hc
  | succ n ih =>
    intro k F N D x y hk hk2 wN hc
    have a1 := hact (k / 2) (by omega) (by omega)
    rw [chRow] at hc
    by_cases hk3 : now k
    · rw [if_pos hk3] at hc
      cases hS : chAll changeTime changeOf changeHow changeN changeD (tmo k) (changes (triedAction (k / 2))).toNat (6 * (triedAction (k / 2))) (F, N, D) with
      | none =>
        rw [hS] at hc
        have hkp : k = p := Sum.inl.inj hc
        subst hkp
        obtain ⟨F0, N0, D0, x0, y0, hca⟩ := c_Mo_allChanged_no (d := d + 2) (pre := pre) (post := post) (point := k) (outN := x) (outD := y) hp hw (p := k) (by omega) a1 wN hS
        refine ⟨x0, y0, ?_⟩
        refine Rg.step 80 F_Mo_passed_79 rfl (fun _ => rfl) ?_
        refine Rg.getf 83 F_Mo_passed_80 rfl rF_26_305 (gM hp) rfl ?_
        refine Rg.step 84 F_Mo_passed_83 rfl (fun _ => rfl) ?_
        refine Rg.step 85 F_Mo_passed_84 rfl (fun _ => rfl) ?_
        refine Rg.getf 88 F_Mo_passed_85 rfl rF_26_242 (gM hp) rfl ?_
        refine Rg.mulI 89 F_Mo_passed_88 rfl ?_
        refine Rg.icgeI 137 92 F_Mo_passed_89 rfl rfl (by omega) (by omega) (fun h89 => by omega) (fun _ => ?_)
        refine Rg.step 93 F_Mo_passed_92 rfl (fun _ => rfl) ?_
        refine Rg.getf 96 F_Mo_passed_93 rfl rF_26_160 (gM hp) rfl ?_
        refine Rg.step 97 F_Mo_passed_96 rfl (fun _ => rfl) ?_
        refine Rg.getf 100 F_Mo_passed_97 rfl rF_26_305 (gM hp) rfl ?_
        refine Rg.zld 101 F_Mo_passed_100 rfl (gR_now hp) (by omega) (by decide) ?_
        refine Rg.ifeqP 124 104 F_Mo_passed_101 rfl rfl (fun h101 => absurd hk3 h101) (fun _ => ?_)
        refine Rg.step 105 F_Mo_passed_104 rfl (fun _ => rfl) ?_
        refine Rg.step 106 F_Mo_passed_105 rfl (fun _ => rfl) ?_
        refine Rg.getf 109 F_Mo_passed_106 rfl rF_26_305 (gM hp) rfl ?_
        refine Rg.call 112 F_Mo_passed_109 rfl (one_V rM_26_314 (by decide) (by simp) rfl rfl (gM hp) rfl) (Nat.le_of_ble_eq_true rfl) hca ?_
        refine Rg.ifeqP 118 115 F_Mo_passed_112 rfl rfl (fun _ => ?_) (fun h112 => absurd h112 (fun z => z))
        refine Rg.step 119 F_Mo_passed_118 rfl (fun _ => rfl) ?_
        refine Rg.call 122 F_Mo_passed_119 rfl (one_V rM_26_317 (by decide) (by simp) rfl rfl (gM hp) rfl) (Nat.le_of_ble_eq_true rfl) (c_Mo_oldState hp) ?_
        refine Rg.step 123 F_Mo_passed_122 rfl (fun _ => rfl) ?_
        exact Rg.retI F_Mo_passed_123 rfl rfl rfl
      | some S1 =>
        rw [hS] at hc
        obtain ⟨F0, N0, D0⟩ := S1
        obtain ⟨w0, x0, y0, hca⟩ := c_Mo_allChanged (d := d + 2) (pre := pre) (post := post) (point := k) (outN := x) (outD := y) hp hw (p := k) (by omega) a1 wN hS
        obtain ⟨x1, y1, ht⟩ := ih (k + 1) F0 N0 D0 x0 y0 (by omega) (by omega) w0 hc
        refine ⟨x1, y1, ?_⟩
        refine Rg.step 80 F_Mo_passed_79 rfl (fun _ => rfl) ?_
        refine Rg.getf 83 F_Mo_passed_80 rfl rF_26_305 (gM hp) rfl ?_
        refine Rg.step 84 F_Mo_passed_83 rfl (fun _ => rfl) ?_
        refine Rg.step 85 F_Mo_passed_84 rfl (fun _ => rfl) ?_
        refine Rg.getf 88 F_Mo_passed_85 rfl rF_26_242 (gM hp) rfl ?_
        refine Rg.mulI 89 F_Mo_passed_88 rfl ?_
        refine Rg.icgeI 137 92 F_Mo_passed_89 rfl rfl (by omega) (by omega) (fun h89 => by omega) (fun _ => ?_)
        refine Rg.step 93 F_Mo_passed_92 rfl (fun _ => rfl) ?_
        refine Rg.getf 96 F_Mo_passed_93 rfl rF_26_160 (gM hp) rfl ?_
        refine Rg.step 97 F_Mo_passed_96 rfl (fun _ => rfl) ?_
        refine Rg.getf 100 F_Mo_passed_97 rfl rF_26_305 (gM hp) rfl ?_
        refine Rg.zld 101 F_Mo_passed_100 rfl (gR_now hp) (by omega) (by decide) ?_
        refine Rg.ifeqP 124 104 F_Mo_passed_101 rfl rfl (fun h101 => absurd hk3 h101) (fun _ => ?_)
        refine Rg.step 105 F_Mo_passed_104 rfl (fun _ => rfl) ?_
        refine Rg.step 106 F_Mo_passed_105 rfl (fun _ => rfl) ?_
        refine Rg.getf 109 F_Mo_passed_106 rfl rF_26_305 (gM hp) rfl ?_
        refine Rg.call 112 F_Mo_passed_109 rfl (one_V rM_26_314 (by decide) (by simp) rfl rfl (gM hp) rfl) (Nat.le_of_ble_eq_true rfl) hca ?_
        refine Rg.ifeqP 118 115 F_Mo_passed_112 rfl rfl (fun h112 => absurd trivial h112) (fun _ => ?_)
        refine Rg.step 124 F_Mo_passed_115 rfl (fun _ => rfl) ?_
        refine Rg.step 125 F_Mo_passed_124 rfl (fun _ => rfl) ?_
        refine Rg.step 126 F_Mo_passed_125 rfl (fun _ => rfl) ?_
        refine Rg.getf 129 F_Mo_passed_126 rfl rF_26_305 (gM hp) rfl ?_
        refine Rg.step 130 F_Mo_passed_129 rfl (fun _ => rfl) ?_
        refine Rg.addI 131 F_Mo_passed_130 rfl ?_
        refine Rg.put 134 F_Mo_passed_131 rfl rF_26_305 (gM hp) (by decide) (Nat.le_of_ble_eq_true rfl) (Or.inl rfl) rfl (sM_point hp) ?_
        refine Rg.step 79 F_Mo_passed_134 rfl (fun _ => rfl) ?_
        exact Rg.weak ht (by simp [lput1, lput2, Value.category, fi0, fi1, fi2, fi3] <;> first | rfl | exact ⟨rfl, rfl⟩) (by simp [lput1, lput2, Value.category, fi0, fi1, fi2, fi3] <;> first | rfl | exact ⟨rfl, rfl⟩)
    · rw [if_neg hk3] at hc
      obtain ⟨x1, y1, ht⟩ := ih (k + 1) F N D x y (by omega) (by omega) wN hc
      refine ⟨x1, y1, ?_⟩
      refine Rg.step 80 F_Mo_passed_79 rfl (fun _ => rfl) ?_
      refine Rg.getf 83 F_Mo_passed_80 rfl rF_26_305 (gM hp) rfl ?_
      refine Rg.step 84 F_Mo_passed_83 rfl (fun _ => rfl) ?_
      refine Rg.step 85 F_Mo_passed_84 rfl (fun _ => rfl) ?_
      refine Rg.getf 88 F_Mo_passed_85 rfl rF_26_242 (gM hp) rfl ?_
      refine Rg.mulI 89 F_Mo_passed_88 rfl ?_
      refine Rg.icgeI 137 92 F_Mo_passed_89 rfl rfl (by omega) (by omega) (fun h89 => by omega) (fun _ => ?_)
      refine Rg.step 93 F_Mo_passed_92 rfl (fun _ => rfl) ?_
      refine Rg.getf 96 F_Mo_passed_93 rfl rF_26_160 (gM hp) rfl ?_
      refine Rg.step 97 F_Mo_passed_96 rfl (fun _ => rfl) ?_
      refine Rg.getf 100 F_Mo_passed_97 rfl rF_26_305 (gM hp) rfl ?_
      refine Rg.zld 101 F_Mo_passed_100 rfl (gR_now hp) (by omega) (by decide) ?_
      refine Rg.ifeqP 124 104 F_Mo_passed_101 rfl rfl (fun _ => ?_) (fun h101 => absurd h101 hk3)
      refine Rg.step 125 F_Mo_passed_124 rfl (fun _ => rfl) ?_
      refine Rg.step 126 F_Mo_passed_125 rfl (fun _ => rfl) ?_
      refine Rg.getf 129 F_Mo_passed_126 rfl rF_26_305 (gM hp) rfl ?_
      refine Rg.step 130 F_Mo_passed_129 rfl (fun _ => rfl) ?_
      refine Rg.addI 131 F_Mo_passed_130 rfl ?_
      refine Rg.put 134 F_Mo_passed_131 rfl rF_26_305 (gM hp) (by decide) (Nat.le_of_ble_eq_true rfl) (Or.inl rfl) rfl (sM_point hp) ?_
      refine Rg.step 79 F_Mo_passed_134 rfl (fun _ => rfl) ?_
      exact Rg.weak ht (by simp [lput1, lput2, Value.category, fi0, fi1, fi2, fi3] <;> first | rfl | exact ⟨rfl, rfl⟩) (by simp [lput1, lput2, Value.category, fi0, fi1, fi2, fi3] <;> first | rfl | exact ⟨rfl, rfl⟩)
theorem pass_gone {d n0 : Nat} (hp : pre.length = 168) (wS : 0 ≤ steps ∧ steps ≤ 12) {o : Option Value ⊕ Nat} {mem1 : AM} (hg : Rg false (d + 7) m_Mo_passed n0 184 [(0, .ref 168)] [] (MR pre code amountN amountD momentN momentD epsilonN epsilonD firstFacts firstN firstD wishes wants wantN wantD actions needs needTime needOf needHow needN needD changes changeTime changeOf changeHow changeN changeD lastOf lastN lastD steps stepAction startN startD lengthN lengthD rows row tried triedAction triedRows triedRow times unit facts numN numD oldFacts oldN oldD point judged fault faultPoint toldFacts toldN toldD outN outD pointN pointD (mix (2 * steps) (fun p => gone p ∨ now p) gone) now leastN leastD greatestN greatestD events post) o mem1) : ∀ (n : Nat) (k : Int), k + n = 2 * steps → 0 ≤ k → Rg false (d + 7) m_Mo_passed n0 139 [(1, .int (iI k)), (0, .ref 168)] [] (MR pre code amountN amountD momentN momentD epsilonN epsilonD firstFacts firstN firstD wishes wants wantN wantD actions needs needTime needOf needHow needN needD changes changeTime changeOf changeHow changeN changeD lastOf lastN lastD steps stepAction startN startD lengthN lengthD rows row tried triedAction triedRows triedRow times unit facts numN numD oldFacts oldN oldD point judged fault faultPoint toldFacts toldN toldD outN outD pointN pointD (mix k (fun p => gone p ∨ now p) gone) now leastN leastD greatestN greatestD events post) o mem1 := by
  intro n
  induction n with
  | zero =>
    intro k hk hk2
    have hk : k = 2 * steps := by omega
    subst hk
    refine Rg.step 140 F_Mo_passed_139 rfl (fun _ => rfl) ?_
    refine Rg.step 141 F_Mo_passed_140 rfl (fun _ => rfl) ?_
    refine Rg.step 142 F_Mo_passed_141 rfl (fun _ => rfl) ?_
    refine Rg.getf 145 F_Mo_passed_142 rfl rF_26_242 (gM hp) rfl ?_
    refine Rg.mulI 146 F_Mo_passed_145 rfl ?_
    refine Rg.icgeI 184 149 F_Mo_passed_146 rfl rfl (by omega) (by omega) (fun _ => ?_) (fun h146 => by omega)
    exact Rg.weak hg (by simp [lput1, lput2, Value.category, fi0, fi1, fi2, fi3] <;> first | rfl | exact ⟨rfl, rfl⟩) (by simp [lput1, lput2, Value.category, fi0, fi1, fi2, fi3] <;> first | rfl | exact ⟨rfl, rfl⟩)
  | succ n ih =>
    intro k hk hk2
    have e1 : mix k (fun p => gone p ∨ now p) gone k = gone k := by unfold mix; rw [if_neg (by omega)]
    refine Rg.step 140 F_Mo_passed_139 rfl (fun _ => rfl) ?_
    refine Rg.step 141 F_Mo_passed_140 rfl (fun _ => rfl) ?_
    refine Rg.step 142 F_Mo_passed_141 rfl (fun _ => rfl) ?_
    refine Rg.getf 145 F_Mo_passed_142 rfl rF_26_242 (gM hp) rfl ?_
    refine Rg.mulI 146 F_Mo_passed_145 rfl ?_
    refine Rg.icgeI 184 149 F_Mo_passed_146 rfl rfl (by omega) (by omega) (fun h146 => by omega) (fun _ => ?_)
    refine Rg.step 150 F_Mo_passed_149 rfl (fun _ => rfl) ?_
    refine Rg.getf 153 F_Mo_passed_150 rfl rF_26_157 (gM hp) rfl ?_
    refine Rg.step 154 F_Mo_passed_153 rfl (fun _ => rfl) ?_
    refine Rg.step 155 F_Mo_passed_154 rfl (fun _ => rfl) ?_
    refine Rg.getf 158 F_Mo_passed_155 rfl rF_26_157 (gM hp) rfl ?_
    refine Rg.step 159 F_Mo_passed_158 rfl (fun _ => rfl) ?_
    refine Rg.zld 160 F_Mo_passed_159 rfl (gR_gone hp) (by omega) (by decide) ?_
    rw [e1]
    refine Rg.ifneP 172 163 F_Mo_passed_160 rfl rfl (fun h160 => ?_) (fun h160 => ?_)
    · refine Rg.cP1 (B := (gone k ∨ now k)) 173 F_Mo_passed_172 rfl (Or.inl h160) ?_
      refine Rg.step 177 F_Mo_passed_173 rfl (fun _ => rfl) ?_
      refine Rg.zst 178 F_Mo_passed_177 rfl (gR_gone hp) (by decide) (sR_gone hp) (by omega) (by decide) ?_
      refine Rg.inc 181 F_Mo_passed_178 rfl rfl (by decide) ?_
      refine Rg.step 139 F_Mo_passed_181 rfl (fun _ => rfl) ?_
      rw [mix_up (f := (fun p => gone p ∨ now p))]
      exact Rg.weak (ih (k + 1) (by omega) (by omega)) (by simp [lput1, lput2, Value.category, fi0, fi1, fi2, fi3] <;> first | rfl | exact ⟨rfl, rfl⟩) (by simp [lput1, lput2, Value.category, fi0, fi1, fi2, fi3] <;> first | rfl | exact ⟨rfl, rfl⟩)
    · refine Rg.step 164 F_Mo_passed_163 rfl (fun _ => rfl) ?_
      refine Rg.getf 167 F_Mo_passed_164 rfl rF_26_160 (gM hp) rfl ?_
      refine Rg.step 168 F_Mo_passed_167 rfl (fun _ => rfl) ?_
      refine Rg.zld 169 F_Mo_passed_168 rfl (gR_now hp) (by omega) (by decide) ?_
      refine Rg.ifeqP 176 172 F_Mo_passed_169 rfl rfl (fun h169 => ?_) (fun h169 => ?_)
      · refine Rg.cP0 (B := (gone k ∨ now k)) 177 F_Mo_passed_176 rfl (fun z => z.elim h160 h169) ?_
        refine Rg.zst 178 F_Mo_passed_177 rfl (gR_gone hp) (by decide) (sR_gone hp) (by omega) (by decide) ?_
        refine Rg.inc 181 F_Mo_passed_178 rfl rfl (by decide) ?_
        refine Rg.step 139 F_Mo_passed_181 rfl (fun _ => rfl) ?_
        rw [mix_up (f := (fun p => gone p ∨ now p))]
        exact Rg.weak (ih (k + 1) (by omega) (by omega)) (by simp [lput1, lput2, Value.category, fi0, fi1, fi2, fi3] <;> first | rfl | exact ⟨rfl, rfl⟩) (by simp [lput1, lput2, Value.category, fi0, fi1, fi2, fi3] <;> first | rfl | exact ⟨rfl, rfl⟩)
      · refine Rg.cP1 (B := (gone k ∨ now k)) 173 F_Mo_passed_172 rfl (Or.inr h169) ?_
        refine Rg.step 177 F_Mo_passed_173 rfl (fun _ => rfl) ?_
        refine Rg.zst 178 F_Mo_passed_177 rfl (gR_gone hp) (by decide) (sR_gone hp) (by omega) (by decide) ?_
        refine Rg.inc 181 F_Mo_passed_178 rfl rfl (by decide) ?_
        refine Rg.step 139 F_Mo_passed_181 rfl (fun _ => rfl) ?_
        rw [mix_up (f := (fun p => gone p ∨ now p))]
        exact Rg.weak (ih (k + 1) (by omega) (by omega)) (by simp [lput1, lput2, Value.category, fi0, fi1, fi2, fi3] <;> first | rfl | exact ⟨rfl, rfl⟩) (by simp [lput1, lput2, Value.category, fi0, fi1, fi2, fi3] <;> first | rfl | exact ⟨rfl, rfl⟩)
theorem pass_over {d n0 : Nat} (hp : pre.length = 168) (hw : WT epsilonN epsilonD wishes wants wantN wantD actions needs needTime needOf needHow needN needD changes changeTime changeOf changeHow changeN changeD lastOf lastN lastD firstN firstD) (wS : 0 ≤ steps ∧ steps ≤ 12) (hact : ∀ s, 0 ≤ s → s < steps → 0 ≤ triedAction s ∧ triedAction s < actions) (wN : WN numN numD) : ∀ (n : Nat) (k x : Int), k + n = steps → 0 ≤ k → (∀ r, k ≤ r → r < steps → ¬ (gone (2 * r) ∧ ¬ gone (2 * r + 1) ∧ ¬ (fit needs needTime needOf needHow needN needD facts numN numD (triedAction r) 1))) → ∃ x1, Rg false (d + 7) m_Mo_passed n0 186 [(1, .int (iI k)), (0, .ref 168)] [] (MR pre code amountN amountD momentN momentD epsilonN epsilonD firstFacts firstN firstD wishes wants wantN wantD actions needs needTime needOf needHow needN needD changes changeTime changeOf changeHow changeN changeD lastOf lastN lastD steps stepAction startN startD lengthN lengthD rows row tried triedAction triedRows triedRow times unit facts numN numD oldFacts oldN oldD x judged fault faultPoint toldFacts toldN toldD outN outD pointN pointD gone now leastN leastD greatestN greatestD events post) (.inl (some (.int (iI 0)))) (MR pre code amountN amountD momentN momentD epsilonN epsilonD firstFacts firstN firstD wishes wants wantN wantD actions needs needTime needOf needHow needN needD changes changeTime changeOf changeHow changeN changeD lastOf lastN lastD steps stepAction startN startD lengthN lengthD rows row tried triedAction triedRows triedRow times unit facts numN numD oldFacts oldN oldD x1 judged fault faultPoint toldFacts toldN toldD outN outD pointN pointD gone now leastN leastD greatestN greatestD events post) := by
  intro n
  induction n with
  | zero =>
    intro k x hk hk2 hn
    refine ⟨x, ?_⟩
    refine Rg.step 187 F_Mo_passed_186 rfl (fun _ => rfl) ?_
    refine Rg.step 188 F_Mo_passed_187 rfl (fun _ => rfl) ?_
    refine Rg.getf 191 F_Mo_passed_188 rfl rF_26_242 (gM hp) rfl ?_
    refine Rg.icgeI 242 194 F_Mo_passed_191 rfl rfl (by omega) (by omega) (fun _ => ?_) (fun h191 => by omega)
    refine Rg.step 243 F_Mo_passed_242 rfl (fun _ => rfl) ?_
    exact Rg.retI F_Mo_passed_243 rfl rfl rfl
  | succ n ih =>
    intro k x hk hk2 hn
    have a1 := hact k (by omega) (by omega)
    obtain ⟨x1, ht⟩ := ih (k + 1) (2 * k) (by omega) (by omega) (fun r z1 z2 => hn r (by omega) z2)
    refine ⟨x1, ?_⟩
    refine Rg.step 187 F_Mo_passed_186 rfl (fun _ => rfl) ?_
    refine Rg.step 188 F_Mo_passed_187 rfl (fun _ => rfl) ?_
    refine Rg.getf 191 F_Mo_passed_188 rfl rF_26_242 (gM hp) rfl ?_
    refine Rg.icgeI 242 194 F_Mo_passed_191 rfl rfl (by omega) (by omega) (fun h191 => by omega) (fun _ => ?_)
    refine Rg.step 195 F_Mo_passed_194 rfl (fun _ => rfl) ?_
    refine Rg.step 196 F_Mo_passed_195 rfl (fun _ => rfl) ?_
    refine Rg.step 197 F_Mo_passed_196 rfl (fun _ => rfl) ?_
    refine Rg.mulI 198 F_Mo_passed_197 rfl ?_
    refine Rg.put 201 F_Mo_passed_198 rfl rF_26_305 (gM hp) (by decide) (Nat.le_of_ble_eq_true rfl) (Or.inl rfl) rfl (sM_point hp) ?_
    refine Rg.step 202 F_Mo_passed_201 rfl (fun _ => rfl) ?_
    refine Rg.getf 205 F_Mo_passed_202 rfl rF_26_157 (gM hp) rfl ?_
    refine Rg.step 206 F_Mo_passed_205 rfl (fun _ => rfl) ?_
    refine Rg.step 207 F_Mo_passed_206 rfl (fun _ => rfl) ?_
    refine Rg.mulI 208 F_Mo_passed_207 rfl ?_
    refine Rg.zld 209 F_Mo_passed_208 rfl (gR_gone hp) (by omega) (by decide) ?_
    refine Rg.ifeqP 236 212 F_Mo_passed_209 rfl rfl (fun h209 => ?_) (fun h209 => ?_)
    · refine Rg.inc 239 F_Mo_passed_236 rfl rfl (by decide) ?_
      refine Rg.step 186 F_Mo_passed_239 rfl (fun _ => rfl) ?_
      exact Rg.weak ht (by simp [lput1, lput2, Value.category, fi0, fi1, fi2, fi3] <;> first | rfl | exact ⟨rfl, rfl⟩) (by simp [lput1, lput2, Value.category, fi0, fi1, fi2, fi3] <;> first | rfl | exact ⟨rfl, rfl⟩)
    · refine Rg.step 213 F_Mo_passed_212 rfl (fun _ => rfl) ?_
      refine Rg.getf 216 F_Mo_passed_213 rfl rF_26_157 (gM hp) rfl ?_
      refine Rg.step 217 F_Mo_passed_216 rfl (fun _ => rfl) ?_
      refine Rg.step 218 F_Mo_passed_217 rfl (fun _ => rfl) ?_
      refine Rg.mulI 219 F_Mo_passed_218 rfl ?_
      refine Rg.step 220 F_Mo_passed_219 rfl (fun _ => rfl) ?_
      refine Rg.addI 221 F_Mo_passed_220 rfl ?_
      refine Rg.zld 222 F_Mo_passed_221 rfl (gR_gone hp) (by omega) (by decide) ?_
      refine Rg.ifneP 236 225 F_Mo_passed_222 rfl rfl (fun h222 => ?_) (fun h222 => ?_)
      · refine Rg.inc 239 F_Mo_passed_236 rfl rfl (by decide) ?_
        refine Rg.step 186 F_Mo_passed_239 rfl (fun _ => rfl) ?_
        exact Rg.weak ht (by simp [lput1, lput2, Value.category, fi0, fi1, fi2, fi3] <;> first | rfl | exact ⟨rfl, rfl⟩) (by simp [lput1, lput2, Value.category, fi0, fi1, fi2, fi3] <;> first | rfl | exact ⟨rfl, rfl⟩)
      · refine Rg.step 226 F_Mo_passed_225 rfl (fun _ => rfl) ?_
        refine Rg.step 227 F_Mo_passed_226 rfl (fun _ => rfl) ?_
        refine Rg.step 228 F_Mo_passed_227 rfl (fun _ => rfl) ?_
        refine Rg.call 231 F_Mo_passed_228 rfl (one_V rM_26_299 (by decide) (by simp) rfl rfl (gM hp) rfl) (Nat.le_of_ble_eq_true rfl) (Cg.any (c_Mo_isFit hp hw wN (by omega) a1 (by omega))) ?_
        refine Rg.ifneP 236 234 F_Mo_passed_231 rfl rfl (fun h231 => ?_) (fun h231 => ?_)
        · refine Rg.inc 239 F_Mo_passed_236 rfl rfl (by decide) ?_
          refine Rg.step 186 F_Mo_passed_239 rfl (fun _ => rfl) ?_
          exact Rg.weak ht (by simp [lput1, lput2, Value.category, fi0, fi1, fi2, fi3] <;> first | rfl | exact ⟨rfl, rfl⟩) (by simp [lput1, lput2, Value.category, fi0, fi1, fi2, fi3] <;> first | rfl | exact ⟨rfl, rfl⟩)
        · refine Rg.step 235 F_Mo_passed_234 rfl (fun _ => rfl) ?_
          exact absurd ⟨h209, h222, h231⟩ (hn k (by omega) (by omega))
theorem pass_over5 {d n0 : Nat} (hp : pre.length = 168) (hw : WT epsilonN epsilonD wishes wants wantN wantD actions needs needTime needOf needHow needN needD changes changeTime changeOf changeHow changeN changeD lastOf lastN lastD firstN firstD) (wS : 0 ≤ steps ∧ steps ≤ 12) (hact : ∀ s, 0 ≤ s → s < steps → 0 ≤ triedAction s ∧ triedAction s < actions) (wN : WN numN numD) {s : Int} (hs : s < steps) (hB : (gone (2 * s) ∧ ¬ gone (2 * s + 1) ∧ ¬ (fit needs needTime needOf needHow needN needD facts numN numD (triedAction s) 1))) : ∀ (n : Nat) (k x : Int), k + n = s → 0 ≤ k → (∀ r, k ≤ r → r < s → ¬ (gone (2 * r) ∧ ¬ gone (2 * r + 1) ∧ ¬ (fit needs needTime needOf needHow needN needD facts numN numD (triedAction r) 1))) → Rg false (d + 7) m_Mo_passed n0 186 [(1, .int (iI k)), (0, .ref 168)] [] (MR pre code amountN amountD momentN momentD epsilonN epsilonD firstFacts firstN firstD wishes wants wantN wantD actions needs needTime needOf needHow needN needD changes changeTime changeOf changeHow changeN changeD lastOf lastN lastD steps stepAction startN startD lengthN lengthD rows row tried triedAction triedRows triedRow times unit facts numN numD oldFacts oldN oldD x judged fault faultPoint toldFacts toldN toldD outN outD pointN pointD gone now leastN leastD greatestN greatestD events post) (.inl (some (.int (iI 5)))) (MR pre code amountN amountD momentN momentD epsilonN epsilonD firstFacts firstN firstD wishes wants wantN wantD actions needs needTime needOf needHow needN needD changes changeTime changeOf changeHow changeN changeD lastOf lastN lastD steps stepAction startN startD lengthN lengthD rows row tried triedAction triedRows triedRow times unit facts numN numD oldFacts oldN oldD (2 * s) judged fault faultPoint toldFacts toldN toldD outN outD pointN pointD gone now leastN leastD greatestN greatestD events post) := by
  intro n
  induction n with
  | zero =>
    intro k x hk hk2 hn
    have hk : k = s := by omega
    subst hk
    have a1 := hact k (by omega) (by omega)
    refine Rg.step 187 F_Mo_passed_186 rfl (fun _ => rfl) ?_
    refine Rg.step 188 F_Mo_passed_187 rfl (fun _ => rfl) ?_
    refine Rg.getf 191 F_Mo_passed_188 rfl rF_26_242 (gM hp) rfl ?_
    refine Rg.icgeI 242 194 F_Mo_passed_191 rfl rfl (by omega) (by omega) (fun h191 => by omega) (fun _ => ?_)
    refine Rg.step 195 F_Mo_passed_194 rfl (fun _ => rfl) ?_
    refine Rg.step 196 F_Mo_passed_195 rfl (fun _ => rfl) ?_
    refine Rg.step 197 F_Mo_passed_196 rfl (fun _ => rfl) ?_
    refine Rg.mulI 198 F_Mo_passed_197 rfl ?_
    refine Rg.put 201 F_Mo_passed_198 rfl rF_26_305 (gM hp) (by decide) (Nat.le_of_ble_eq_true rfl) (Or.inl rfl) rfl (sM_point hp) ?_
    refine Rg.step 202 F_Mo_passed_201 rfl (fun _ => rfl) ?_
    refine Rg.getf 205 F_Mo_passed_202 rfl rF_26_157 (gM hp) rfl ?_
    refine Rg.step 206 F_Mo_passed_205 rfl (fun _ => rfl) ?_
    refine Rg.step 207 F_Mo_passed_206 rfl (fun _ => rfl) ?_
    refine Rg.mulI 208 F_Mo_passed_207 rfl ?_
    refine Rg.zld 209 F_Mo_passed_208 rfl (gR_gone hp) (by omega) (by decide) ?_
    refine Rg.ifeqP 236 212 F_Mo_passed_209 rfl rfl (fun h209 => absurd hB.1 h209) (fun _ => ?_)
    refine Rg.step 213 F_Mo_passed_212 rfl (fun _ => rfl) ?_
    refine Rg.getf 216 F_Mo_passed_213 rfl rF_26_157 (gM hp) rfl ?_
    refine Rg.step 217 F_Mo_passed_216 rfl (fun _ => rfl) ?_
    refine Rg.step 218 F_Mo_passed_217 rfl (fun _ => rfl) ?_
    refine Rg.mulI 219 F_Mo_passed_218 rfl ?_
    refine Rg.step 220 F_Mo_passed_219 rfl (fun _ => rfl) ?_
    refine Rg.addI 221 F_Mo_passed_220 rfl ?_
    refine Rg.zld 222 F_Mo_passed_221 rfl (gR_gone hp) (by omega) (by decide) ?_
    refine Rg.ifneP 236 225 F_Mo_passed_222 rfl rfl (fun h222 => absurd h222 hB.2.1) (fun _ => ?_)
    refine Rg.step 226 F_Mo_passed_225 rfl (fun _ => rfl) ?_
    refine Rg.step 227 F_Mo_passed_226 rfl (fun _ => rfl) ?_
    refine Rg.step 228 F_Mo_passed_227 rfl (fun _ => rfl) ?_
    refine Rg.call 231 F_Mo_passed_228 rfl (one_V rM_26_299 (by decide) (by simp) rfl rfl (gM hp) rfl) (Nat.le_of_ble_eq_true rfl) (Cg.any (c_Mo_isFit hp hw wN (by omega) a1 (by omega))) ?_
    refine Rg.ifneP 236 234 F_Mo_passed_231 rfl rfl (fun h231 => absurd h231 hB.2.2) (fun _ => ?_)
    refine Rg.step 235 F_Mo_passed_234 rfl (fun _ => rfl) ?_
    exact Rg.retI F_Mo_passed_235 rfl rfl rfl
  | succ n ih =>
    intro k x hk hk2 hn
    have a1 := hact k (by omega) (by omega)
    refine Rg.step 187 F_Mo_passed_186 rfl (fun _ => rfl) ?_
    refine Rg.step 188 F_Mo_passed_187 rfl (fun _ => rfl) ?_
    refine Rg.getf 191 F_Mo_passed_188 rfl rF_26_242 (gM hp) rfl ?_
    refine Rg.icgeI 242 194 F_Mo_passed_191 rfl rfl (by omega) (by omega) (fun h191 => by omega) (fun _ => ?_)
    refine Rg.step 195 F_Mo_passed_194 rfl (fun _ => rfl) ?_
    refine Rg.step 196 F_Mo_passed_195 rfl (fun _ => rfl) ?_
    refine Rg.step 197 F_Mo_passed_196 rfl (fun _ => rfl) ?_
    refine Rg.mulI 198 F_Mo_passed_197 rfl ?_
    refine Rg.put 201 F_Mo_passed_198 rfl rF_26_305 (gM hp) (by decide) (Nat.le_of_ble_eq_true rfl) (Or.inl rfl) rfl (sM_point hp) ?_
    refine Rg.step 202 F_Mo_passed_201 rfl (fun _ => rfl) ?_
    refine Rg.getf 205 F_Mo_passed_202 rfl rF_26_157 (gM hp) rfl ?_
    refine Rg.step 206 F_Mo_passed_205 rfl (fun _ => rfl) ?_
    refine Rg.step 207 F_Mo_passed_206 rfl (fun _ => rfl) ?_
    refine Rg.mulI 208 F_Mo_passed_207 rfl ?_
    refine Rg.zld 209 F_Mo_passed_208 rfl (gR_gone hp) (by omega) (by decide) ?_
    refine Rg.ifeqP 236 212 F_Mo_passed_209 rfl rfl (fun h209 => ?_) (fun h209 => ?_)
    · refine Rg.inc 239 F_Mo_passed_236 rfl rfl (by decide) ?_
      refine Rg.step 186 F_Mo_passed_239 rfl (fun _ => rfl) ?_
      exact Rg.weak (ih (k + 1) (2 * k) (by omega) (by omega) (fun r z1 z2 => hn r (by omega) z2)) (by simp [lput1, lput2, Value.category, fi0, fi1, fi2, fi3] <;> first | rfl | exact ⟨rfl, rfl⟩) (by simp [lput1, lput2, Value.category, fi0, fi1, fi2, fi3] <;> first | rfl | exact ⟨rfl, rfl⟩)
    · refine Rg.step 213 F_Mo_passed_212 rfl (fun _ => rfl) ?_
      refine Rg.getf 216 F_Mo_passed_213 rfl rF_26_157 (gM hp) rfl ?_
      refine Rg.step 217 F_Mo_passed_216 rfl (fun _ => rfl) ?_
      refine Rg.step 218 F_Mo_passed_217 rfl (fun _ => rfl) ?_
      refine Rg.mulI 219 F_Mo_passed_218 rfl ?_
      refine Rg.step 220 F_Mo_passed_219 rfl (fun _ => rfl) ?_
      refine Rg.addI 221 F_Mo_passed_220 rfl ?_
      refine Rg.zld 222 F_Mo_passed_221 rfl (gR_gone hp) (by omega) (by decide) ?_
      refine Rg.ifneP 236 225 F_Mo_passed_222 rfl rfl (fun h222 => ?_) (fun h222 => ?_)
      · refine Rg.inc 239 F_Mo_passed_236 rfl rfl (by decide) ?_
        refine Rg.step 186 F_Mo_passed_239 rfl (fun _ => rfl) ?_
        exact Rg.weak (ih (k + 1) (2 * k) (by omega) (by omega) (fun r z1 z2 => hn r (by omega) z2)) (by simp [lput1, lput2, Value.category, fi0, fi1, fi2, fi3] <;> first | rfl | exact ⟨rfl, rfl⟩) (by simp [lput1, lput2, Value.category, fi0, fi1, fi2, fi3] <;> first | rfl | exact ⟨rfl, rfl⟩)
      · refine Rg.step 226 F_Mo_passed_225 rfl (fun _ => rfl) ?_
        refine Rg.step 227 F_Mo_passed_226 rfl (fun _ => rfl) ?_
        refine Rg.step 228 F_Mo_passed_227 rfl (fun _ => rfl) ?_
        refine Rg.call 231 F_Mo_passed_228 rfl (one_V rM_26_299 (by decide) (by simp) rfl rfl (gM hp) rfl) (Nat.le_of_ble_eq_true rfl) (Cg.any (c_Mo_isFit hp hw wN (by omega) a1 (by omega))) ?_
        refine Rg.ifneP 236 234 F_Mo_passed_231 rfl rfl (fun h231 => ?_) (fun h231 => ?_)
        · refine Rg.inc 239 F_Mo_passed_236 rfl rfl (by decide) ?_
          refine Rg.step 186 F_Mo_passed_239 rfl (fun _ => rfl) ?_
          exact Rg.weak (ih (k + 1) (2 * k) (by omega) (by omega) (fun r z1 z2 => hn r (by omega) z2)) (by simp [lput1, lput2, Value.category, fi0, fi1, fi2, fi3] <;> first | rfl | exact ⟨rfl, rfl⟩) (by simp [lput1, lput2, Value.category, fi0, fi1, fi2, fi3] <;> first | rfl | exact ⟨rfl, rfl⟩)
        · refine Rg.step 235 F_Mo_passed_234 rfl (fun _ => rfl) ?_
          exact absurd ⟨h209, h222, h231⟩ (hn k (by omega) (by omega))
end R50
