/-! The reference: judge. -/
theorem fst_or (A : Int → Prop) (m : Int) (hm : 0 ≤ m) : (∃ p, 0 ≤ p ∧ p < m ∧ A p ∧ ∀ q, 0 ≤ q → q < p → ¬ A q) ∨ (∀ q, 0 ≤ q → q < m → ¬ A q) := by
  rcases fnd_bd (A := A) m.toNat 0 with ⟨_, h⟩ | ⟨h1, h2, h3, h4⟩
  · exact Or.inr (fun q z1 z2 => h q z1 (by omega))
  · exact Or.inl ⟨_, h1, by omega, h3, h4⟩
noncomputable def cntP (A : Int → Prop) : Nat → Nat
  | 0 => 0
  | n + 1 => cntP A n + @ite _ (A (n : Int)) (Classical.propDecidable _) 1 0
theorem cntP_le {A B : Int → Prop} : ∀ (n : Nat), (∀ q : Int, 0 ≤ q → q < n → B q → A q) → cntP B n ≤ cntP A n := by
  intro n
  induction n with
  | zero => intro _; exact Nat.le_refl _
  | succ n ih =>
    intro h
    have h1 := ih (fun q z1 z2 => h q z1 (by omega))
    unfold cntP
    by_cases hb : B (n : Int)
    · rw [if_pos hb, if_pos (h n (by omega) (by omega) hb)]
      omega
    · rw [if_neg hb]
      omega
theorem cntP_lt {A B : Int → Prop} {p : Int} (h0 : 0 ≤ p) (ha : A p) (hb : ¬ B p) : ∀ (n : Nat), p < n → (∀ q : Int, 0 ≤ q → q < n → B q → A q) → cntP B n < cntP A n := by
  intro n
  induction n with
  | zero => intro h _; omega
  | succ n ih =>
    intro hp h
    unfold cntP
    by_cases hpn : p = n
    · subst hpn
      rw [if_neg hb, if_pos ha]
      have := cntP_le (A := A) (B := B) n (fun q z1 z2 => h q z1 (by omega))
      omega
    · have h1 := ih (by omega) (fun q z1 z2 => h q z1 (by omega))
      by_cases hb2 : B (n : Int)
      · rw [if_pos hb2, if_pos (h n (by omega) (by omega) hb2)]
        omega
      · rw [if_neg hb2]
        omega
theorem cntP_b (A : Int → Prop) : ∀ n : Nat, cntP A n ≤ n := by
  intro n
  induction n with
  | zero => exact Nat.le_refl _
  | succ n ih =>
    unfold cntP
    by_cases h : A (n : Int)
    · rw [if_pos h]; omega
    · rw [if_neg h]; omega
/-- time after time, until a fault or the end -/
def JR (m : Int) (W : (Int → Prop) → (Int → Prop) → NS → Int → Int → Prop) (C : (Int → Prop) → NS → Int ⊕ NS) (O : NS → Int → Prop) (T : (Int → Prop) → Int → Prop) : Nat → (Int → Prop) → NS → Int → Int → NS → Prop
  | 0, gone, S, why, _, S1 => (∀ p, 0 ≤ p → p < m → gone p) ∧ why = 0 ∧ S1 = S
  | n + 1, gone, S, why, pt, S1 => ((∀ p, 0 ≤ p → p < m → gone p) ∧ why = 0 ∧ S1 = S) ∨ ((∃ p, 0 ≤ p ∧ p < m ∧ ¬ gone p) ∧ ∃ now why1 pt1 S2 gone1, (∀ p, 0 ≤ p → p < m → (now p ↔ T gone p)) ∧ PassR m W C O now gone S why1 pt1 S2 gone1 ∧ ((¬ why1 = 0 ∧ why = why1 ∧ pt = pt1 ∧ S1 = S2) ∨ (why1 = 0 ∧ JR m W C O T n gone1 S2 why pt S1)))
section R51
variable {pre post mem : AM}
variable {code amountN amountD momentN momentD epsilonN epsilonD actions steps rows tried triedRows unit point judged fault faultPoint outN outD : Int}
variable {firstN firstD wishes wants wantN wantD needs needTime needOf needHow needN needD changes changeTime changeOf changeHow changeN changeD lastOf lastN lastD stepAction startN startD lengthN lengthD row triedAction triedRow times numN numD oldN oldD toldN toldD pointN pointD leastN leastD greatestN greatestD events : Int → Int}
variable {firstFacts facts oldFacts toldFacts gone now : Int → Prop}
theorem c_Mo_passed {d : Nat} (hp : pre.length = 168) (hw : WT epsilonN epsilonD wishes wants wantN wantD actions needs needTime needOf needHow needN needD changes changeTime changeOf changeHow changeN changeD lastOf lastN lastD firstN firstD) (wT : ∀ s, 0 ≤ triedAction s ∧ triedAction s < 12) (wS : 0 ≤ steps ∧ steps ≤ 12) (wQ : ∀ p, 0 ≤ p → p < 2 * steps → 0 ≤ pointN p ∧ pointN p ≤ 100000000000 ∧ 0 < pointD p ∧ pointD p ≤ 1000000) (hact : ∀ s, 0 ≤ s → s < steps → 0 ≤ triedAction s ∧ triedAction s < actions) (hlen : ∀ s, 0 ≤ s → s < steps → 0 < lengthN s ∧ lengthN s ≤ 100000000000 ∧ 0 < lengthD s ∧ lengthD s ≤ 1000000) (wN : WN numN numD) : ∃ (why pt : Int) (F1 : Int → Prop) (N1 D1 : Int → Int) (gone1 F2 : Int → Prop) (N2 D2 : Int → Int) (x1 y1 : Int), PassR (2 * steps) (wrongR steps triedAction needs needTime needHow needOf needN needD lastOf lastN lastD changes changeTime changeHow changeOf epsilonN epsilonD pointN pointD lengthN lengthD) (fun now S => chRow triedAction changes changeTime changeOf changeHow changeN changeD now (2 * steps).toNat 0 S) (fun S s => fit needs needTime needOf needHow needN needD S.1 S.2.1 S.2.2 (triedAction s) 1) now gone (facts, numN, numD) why pt (F1, N1, D1) gone1 ∧ WN N1 D1 ∧ (0 ≤ why ∧ why ≤ 5) ∧ (-1 ≤ pt → pt < 24 → True) ∧ Cg false (d + 7) m_Mo_passed [.ref 168] (MR pre code amountN amountD momentN momentD epsilonN epsilonD firstFacts firstN firstD wishes wants wantN wantD actions needs needTime needOf needHow needN needD changes changeTime changeOf changeHow changeN changeD lastOf lastN lastD steps stepAction startN startD lengthN lengthD rows row tried triedAction triedRows triedRow times unit facts numN numD oldFacts oldN oldD point judged fault faultPoint toldFacts toldN toldD outN outD pointN pointD gone now leastN leastD greatestN greatestD events post) (.inl (some (.int (iI why)))) (MR pre code amountN amountD momentN momentD epsilonN epsilonD firstFacts firstN firstD wishes wants wantN wantD actions needs needTime needOf needHow needN needD changes changeTime changeOf changeHow changeN changeD lastOf lastN lastD steps stepAction startN startD lengthN lengthD rows row tried triedAction triedRows triedRow times unit F1 N1 D1 F2 N2 D2 pt judged fault faultPoint toldFacts toldN toldD x1 y1 pointN pointD gone1 now leastN leastD greatestN greatestD events post) := by
  have m0 : 0 ≤ 2 * steps := by omega
  rcases fst_or (fun p => now p ∧ wrongR steps triedAction needs needTime needHow needOf needN needD lastOf lastN lastD changes changeTime changeHow changeOf epsilonN epsilonD pointN pointD lengthN lengthD now gone (facts, numN, numD) 1 p) (2 * steps) (by omega) with ⟨p, p1, p2, p3, p4⟩ | n1
  · obtain ⟨x1, y1, hr⟩ := pass_found (d := d) (n0 := (MR pre code amountN amountD momentN momentD epsilonN epsilonD firstFacts firstN firstD wishes wants wantN wantD actions needs needTime needOf needHow needN needD changes changeTime changeOf changeHow changeN changeD lastOf lastN lastD steps stepAction startN startD lengthN lengthD rows row tried triedAction triedRows triedRow times unit facts numN numD oldFacts oldN oldD point judged fault faultPoint toldFacts toldN toldD outN outD pointN pointD gone now leastN leastD greatestN greatestD events post).length) (pre := pre) (post := post) hp hw wT wS wQ hact hlen wN (w := 1) (by omega) p2 p3.1 p3.2 p.toNat 0 outN outD (by omega) (by omega) (fun q z1 z2 z3 z4 => p4 q z1 z2 ⟨z3, z4⟩)
    refine ⟨1, p, facts, numN, numD, gone, oldFacts, oldN, oldD, x1, y1, Or.inl ⟨by omega, by omega, p1, p2, p3.1, p3.2, fun q z1 z2 z3 z4 => p4 q z1 z2 ⟨z3, z4⟩, ?_, rfl⟩, wN, by omega, fun _ _ => trivial, ?_⟩
    · intro v q z1 z2 z3 z4 z5
      omega
    · skip
      refine Cg.of (Nat.le_of_ble_eq_true rfl) ?_
      change Rg _ _ _ _ 0 [(0, .ref 168)] [] _ _ _
      refine Rg.step 1 F_Mo_passed_0 rfl (fun _ => rfl) ?_
      refine Rg.step 2 F_Mo_passed_1 rfl (fun _ => rfl) ?_
      refine Rg.step 3 F_Mo_passed_2 rfl (fun _ => rfl) ?_
      refine Rg.step 4 F_Mo_passed_3 rfl (fun _ => rfl) ?_
      refine Rg.icgeI 70 7 F_Mo_passed_4 rfl rfl (by omega) (by omega) (fun h4 => by omega) (fun _ => ?_)
      refine Rg.step 8 F_Mo_passed_7 rfl (fun _ => rfl) ?_
      refine Rg.step 9 F_Mo_passed_8 rfl (fun _ => rfl) ?_
      refine Rg.put 12 F_Mo_passed_9 rfl rF_26_305 (gM hp) (by decide) (Nat.le_of_ble_eq_true rfl) (Or.inl rfl) rfl (sM_point hp) ?_
      exact Rg.weak hr (by simp [lput1, lput2, Value.category, fi0, fi1, fi2, fi3] <;> first | rfl | exact ⟨rfl, rfl⟩) (by simp [lput1, lput2, Value.category, fi0, fi1, fi2, fi3] <;> first | rfl | exact ⟨rfl, rfl⟩)
  · obtain ⟨u1, v1, t1⟩ := pass_none (d := d) (n0 := (MR pre code amountN amountD momentN momentD epsilonN epsilonD firstFacts firstN firstD wishes wants wantN wantD actions needs needTime needOf needHow needN needD changes changeTime changeOf changeHow changeN changeD lastOf lastN lastD steps stepAction startN startD lengthN lengthD rows row tried triedAction triedRows triedRow times unit facts numN numD oldFacts oldN oldD point judged fault faultPoint toldFacts toldN toldD outN outD pointN pointD gone now leastN leastD greatestN greatestD events post).length) (pre := pre) (post := post) hp hw wT wS wQ hact hlen wN (w := 1) (by omega) (2 * steps).toNat 0 outN outD (by omega) (by omega) (fun q z1 z2 z3 z4 => n1 q z1 z2 ⟨z3, z4⟩)
    rcases fst_or (fun p => now p ∧ wrongR steps triedAction needs needTime needHow needOf needN needD lastOf lastN lastD changes changeTime changeHow changeOf epsilonN epsilonD pointN pointD lengthN lengthD now gone (facts, numN, numD) 2 p) (2 * steps) (by omega) with ⟨p, p1, p2, p3, p4⟩ | n2
    · obtain ⟨x1, y1, hr⟩ := pass_found (d := d) (n0 := (MR pre code amountN amountD momentN momentD epsilonN epsilonD firstFacts firstN firstD wishes wants wantN wantD actions needs needTime needOf needHow needN needD changes changeTime changeOf changeHow changeN changeD lastOf lastN lastD steps stepAction startN startD lengthN lengthD rows row tried triedAction triedRows triedRow times unit facts numN numD oldFacts oldN oldD point judged fault faultPoint toldFacts toldN toldD outN outD pointN pointD gone now leastN leastD greatestN greatestD events post).length) (pre := pre) (post := post) hp hw wT wS wQ hact hlen wN (w := 2) (by omega) p2 p3.1 p3.2 p.toNat 0 u1 v1 (by omega) (by omega) (fun q z1 z2 z3 z4 => p4 q z1 z2 ⟨z3, z4⟩)
      refine ⟨2, p, facts, numN, numD, gone, oldFacts, oldN, oldD, x1, y1, Or.inl ⟨by omega, by omega, p1, p2, p3.1, p3.2, fun q z1 z2 z3 z4 => p4 q z1 z2 ⟨z3, z4⟩, ?_, rfl⟩, wN, by omega, fun _ _ => trivial, ?_⟩
      · intro v q z1 z2 z3 z4 z5
        have hv : v = 1 := by omega
        rcases hv with rfl
        · exact fun y => n1 q z3 z4 ⟨z5, y⟩
      · skip
        refine Cg.of (Nat.le_of_ble_eq_true rfl) ?_
        change Rg _ _ _ _ 0 [(0, .ref 168)] [] _ _ _
        refine Rg.step 1 F_Mo_passed_0 rfl (fun _ => rfl) ?_
        refine Rg.step 2 F_Mo_passed_1 rfl (fun _ => rfl) ?_
        refine Rg.step 3 F_Mo_passed_2 rfl (fun _ => rfl) ?_
        refine Rg.step 4 F_Mo_passed_3 rfl (fun _ => rfl) ?_
        refine Rg.icgeI 70 7 F_Mo_passed_4 rfl rfl (by omega) (by omega) (fun h4 => by omega) (fun _ => ?_)
        refine Rg.step 8 F_Mo_passed_7 rfl (fun _ => rfl) ?_
        refine Rg.step 9 F_Mo_passed_8 rfl (fun _ => rfl) ?_
        refine Rg.put 12 F_Mo_passed_9 rfl rF_26_305 (gM hp) (by decide) (Nat.le_of_ble_eq_true rfl) (Or.inl rfl) rfl (sM_point hp) ?_
        refine Rg.weak (t1 _ _ ?_) (by simp [lput1, lput2, Value.category, fi0, fi1, fi2, fi3] <;> first | rfl | exact ⟨rfl, rfl⟩) (by simp [lput1, lput2, Value.category, fi0, fi1, fi2, fi3] <;> first | rfl | exact ⟨rfl, rfl⟩)
        refine Rg.inc 67 F_Mo_passed_64 rfl rfl (by decide) ?_
        refine Rg.step 2 F_Mo_passed_67 rfl (fun _ => rfl) ?_
        refine Rg.step 3 F_Mo_passed_2 rfl (fun _ => rfl) ?_
        refine Rg.step 4 F_Mo_passed_3 rfl (fun _ => rfl) ?_
        refine Rg.icgeI 70 7 F_Mo_passed_4 rfl rfl (by omega) (by omega) (fun h4 => by omega) (fun _ => ?_)
        refine Rg.step 8 F_Mo_passed_7 rfl (fun _ => rfl) ?_
        refine Rg.step 9 F_Mo_passed_8 rfl (fun _ => rfl) ?_
        refine Rg.put 12 F_Mo_passed_9 rfl rF_26_305 (gM hp) (by decide) (Nat.le_of_ble_eq_true rfl) (Or.inl rfl) rfl (sM_point hp) ?_
        exact Rg.weak hr (by simp [lput1, lput2, Value.category, fi0, fi1, fi2, fi3] <;> first | rfl | exact ⟨rfl, rfl⟩) (by simp [lput1, lput2, Value.category, fi0, fi1, fi2, fi3] <;> first | rfl | exact ⟨rfl, rfl⟩)
    · obtain ⟨u2, v2, t2⟩ := pass_none (d := d) (n0 := (MR pre code amountN amountD momentN momentD epsilonN epsilonD firstFacts firstN firstD wishes wants wantN wantD actions needs needTime needOf needHow needN needD changes changeTime changeOf changeHow changeN changeD lastOf lastN lastD steps stepAction startN startD lengthN lengthD rows row tried triedAction triedRows triedRow times unit facts numN numD oldFacts oldN oldD point judged fault faultPoint toldFacts toldN toldD outN outD pointN pointD gone now leastN leastD greatestN greatestD events post).length) (pre := pre) (post := post) hp hw wT wS wQ hact hlen wN (w := 2) (by omega) (2 * steps).toNat 0 u1 v1 (by omega) (by omega) (fun q z1 z2 z3 z4 => n2 q z1 z2 ⟨z3, z4⟩)
      rcases fst_or (fun p => now p ∧ wrongR steps triedAction needs needTime needHow needOf needN needD lastOf lastN lastD changes changeTime changeHow changeOf epsilonN epsilonD pointN pointD lengthN lengthD now gone (facts, numN, numD) 3 p) (2 * steps) (by omega) with ⟨p, p1, p2, p3, p4⟩ | n3
      · obtain ⟨x1, y1, hr⟩ := pass_found (d := d) (n0 := (MR pre code amountN amountD momentN momentD epsilonN epsilonD firstFacts firstN firstD wishes wants wantN wantD actions needs needTime needOf needHow needN needD changes changeTime changeOf changeHow changeN changeD lastOf lastN lastD steps stepAction startN startD lengthN lengthD rows row tried triedAction triedRows triedRow times unit facts numN numD oldFacts oldN oldD point judged fault faultPoint toldFacts toldN toldD outN outD pointN pointD gone now leastN leastD greatestN greatestD events post).length) (pre := pre) (post := post) hp hw wT wS wQ hact hlen wN (w := 3) (by omega) p2 p3.1 p3.2 p.toNat 0 u2 v2 (by omega) (by omega) (fun q z1 z2 z3 z4 => p4 q z1 z2 ⟨z3, z4⟩)
        refine ⟨3, p, facts, numN, numD, gone, oldFacts, oldN, oldD, x1, y1, Or.inl ⟨by omega, by omega, p1, p2, p3.1, p3.2, fun q z1 z2 z3 z4 => p4 q z1 z2 ⟨z3, z4⟩, ?_, rfl⟩, wN, by omega, fun _ _ => trivial, ?_⟩
        · intro v q z1 z2 z3 z4 z5
          have hv : v = 1 ∨ v = 2 := by omega
          rcases hv with rfl | rfl
          · exact fun y => n1 q z3 z4 ⟨z5, y⟩
          · exact fun y => n2 q z3 z4 ⟨z5, y⟩
        · skip
          refine Cg.of (Nat.le_of_ble_eq_true rfl) ?_
          change Rg _ _ _ _ 0 [(0, .ref 168)] [] _ _ _
          refine Rg.step 1 F_Mo_passed_0 rfl (fun _ => rfl) ?_
          refine Rg.step 2 F_Mo_passed_1 rfl (fun _ => rfl) ?_
          refine Rg.step 3 F_Mo_passed_2 rfl (fun _ => rfl) ?_
          refine Rg.step 4 F_Mo_passed_3 rfl (fun _ => rfl) ?_
          refine Rg.icgeI 70 7 F_Mo_passed_4 rfl rfl (by omega) (by omega) (fun h4 => by omega) (fun _ => ?_)
          refine Rg.step 8 F_Mo_passed_7 rfl (fun _ => rfl) ?_
          refine Rg.step 9 F_Mo_passed_8 rfl (fun _ => rfl) ?_
          refine Rg.put 12 F_Mo_passed_9 rfl rF_26_305 (gM hp) (by decide) (Nat.le_of_ble_eq_true rfl) (Or.inl rfl) rfl (sM_point hp) ?_
          refine Rg.weak (t1 _ _ ?_) (by simp [lput1, lput2, Value.category, fi0, fi1, fi2, fi3] <;> first | rfl | exact ⟨rfl, rfl⟩) (by simp [lput1, lput2, Value.category, fi0, fi1, fi2, fi3] <;> first | rfl | exact ⟨rfl, rfl⟩)
          refine Rg.inc 67 F_Mo_passed_64 rfl rfl (by decide) ?_
          refine Rg.step 2 F_Mo_passed_67 rfl (fun _ => rfl) ?_
          refine Rg.step 3 F_Mo_passed_2 rfl (fun _ => rfl) ?_
          refine Rg.step 4 F_Mo_passed_3 rfl (fun _ => rfl) ?_
          refine Rg.icgeI 70 7 F_Mo_passed_4 rfl rfl (by omega) (by omega) (fun h4 => by omega) (fun _ => ?_)
          refine Rg.step 8 F_Mo_passed_7 rfl (fun _ => rfl) ?_
          refine Rg.step 9 F_Mo_passed_8 rfl (fun _ => rfl) ?_
          refine Rg.put 12 F_Mo_passed_9 rfl rF_26_305 (gM hp) (by decide) (Nat.le_of_ble_eq_true rfl) (Or.inl rfl) rfl (sM_point hp) ?_
          refine Rg.weak (t2 _ _ ?_) (by simp [lput1, lput2, Value.category, fi0, fi1, fi2, fi3] <;> first | rfl | exact ⟨rfl, rfl⟩) (by simp [lput1, lput2, Value.category, fi0, fi1, fi2, fi3] <;> first | rfl | exact ⟨rfl, rfl⟩)
          refine Rg.inc 67 F_Mo_passed_64 rfl rfl (by decide) ?_
          refine Rg.step 2 F_Mo_passed_67 rfl (fun _ => rfl) ?_
          refine Rg.step 3 F_Mo_passed_2 rfl (fun _ => rfl) ?_
          refine Rg.step 4 F_Mo_passed_3 rfl (fun _ => rfl) ?_
          refine Rg.icgeI 70 7 F_Mo_passed_4 rfl rfl (by omega) (by omega) (fun h4 => by omega) (fun _ => ?_)
          refine Rg.step 8 F_Mo_passed_7 rfl (fun _ => rfl) ?_
          refine Rg.step 9 F_Mo_passed_8 rfl (fun _ => rfl) ?_
          refine Rg.put 12 F_Mo_passed_9 rfl rF_26_305 (gM hp) (by decide) (Nat.le_of_ble_eq_true rfl) (Or.inl rfl) rfl (sM_point hp) ?_
          exact Rg.weak hr (by simp [lput1, lput2, Value.category, fi0, fi1, fi2, fi3] <;> first | rfl | exact ⟨rfl, rfl⟩) (by simp [lput1, lput2, Value.category, fi0, fi1, fi2, fi3] <;> first | rfl | exact ⟨rfl, rfl⟩)
      · obtain ⟨u3, v3, t3⟩ := pass_none (d := d) (n0 := (MR pre code amountN amountD momentN momentD epsilonN epsilonD firstFacts firstN firstD wishes wants wantN wantD actions needs needTime needOf needHow needN needD changes changeTime changeOf changeHow changeN changeD lastOf lastN lastD steps stepAction startN startD lengthN lengthD rows row tried triedAction triedRows triedRow times unit facts numN numD oldFacts oldN oldD point judged fault faultPoint toldFacts toldN toldD outN outD pointN pointD gone now leastN leastD greatestN greatestD events post).length) (pre := pre) (post := post) hp hw wT wS wQ hact hlen wN (w := 3) (by omega) (2 * steps).toNat 0 u2 v2 (by omega) (by omega) (fun q z1 z2 z3 z4 => n3 q z1 z2 ⟨z3, z4⟩)
        have nw : ∀ w q, 1 ≤ w → w ≤ 3 → 0 ≤ q → q < 2 * steps → now q → ¬ wrongR steps triedAction needs needTime needHow needOf needN needD lastOf lastN lastD changes changeTime changeHow changeOf epsilonN epsilonD pointN pointD lengthN lengthD now gone (facts, numN, numD) w q := by
          intro v q z1 z2 z3 z4 z5
          have hv : v = 1 ∨ v = 2 ∨ v = 3 := by omega
          rcases hv with rfl | rfl | rfl
          · exact fun y => n1 q z3 z4 ⟨z5, y⟩
          · exact fun y => n2 q z3 z4 ⟨z5, y⟩
          · exact fun y => n3 q z3 z4 ⟨z5, y⟩
        cases hC : chRow triedAction changes changeTime changeOf changeHow changeN changeD now (2 * steps).toNat 0 (facts, numN, numD) with
        | inl p =>
          obtain ⟨x1, y1, hr⟩ := pass_ch4 (d := d) (n0 := (MR pre code amountN amountD momentN momentD epsilonN epsilonD firstFacts firstN firstD wishes wants wantN wantD actions needs needTime needOf needHow needN needD changes changeTime changeOf changeHow changeN changeD lastOf lastN lastD steps stepAction startN startD lengthN lengthD rows row tried triedAction triedRows triedRow times unit facts numN numD oldFacts oldN oldD point judged fault faultPoint toldFacts toldN toldD outN outD pointN pointD gone now leastN leastD greatestN greatestD events post).length) (pre := pre) (post := post) (oldFacts := facts) (oldN := numN) (oldD := numD) hp hw wT wS wQ hact hlen (2 * steps).toNat 0 facts numN numD u3 v3 (by omega) (by omega) wN hC
          refine ⟨4, p, facts, numN, numD, gone, facts, numN, numD, x1, y1, Or.inr ⟨nw, Or.inl ⟨rfl, hC, rfl⟩⟩, wN, by omega, fun _ _ => trivial, ?_⟩
          refine Cg.of (Nat.le_of_ble_eq_true rfl) ?_
          change Rg _ _ _ _ 0 [(0, .ref 168)] [] _ _ _
          refine Rg.step 1 F_Mo_passed_0 rfl (fun _ => rfl) ?_
          refine Rg.step 2 F_Mo_passed_1 rfl (fun _ => rfl) ?_
          refine Rg.step 3 F_Mo_passed_2 rfl (fun _ => rfl) ?_
          refine Rg.step 4 F_Mo_passed_3 rfl (fun _ => rfl) ?_
          refine Rg.icgeI 70 7 F_Mo_passed_4 rfl rfl (by omega) (by omega) (fun h4 => by omega) (fun _ => ?_)
          refine Rg.step 8 F_Mo_passed_7 rfl (fun _ => rfl) ?_
          refine Rg.step 9 F_Mo_passed_8 rfl (fun _ => rfl) ?_
          refine Rg.put 12 F_Mo_passed_9 rfl rF_26_305 (gM hp) (by decide) (Nat.le_of_ble_eq_true rfl) (Or.inl rfl) rfl (sM_point hp) ?_
          refine Rg.weak (t1 _ _ ?_) (by simp [lput1, lput2, Value.category, fi0, fi1, fi2, fi3] <;> first | rfl | exact ⟨rfl, rfl⟩) (by simp [lput1, lput2, Value.category, fi0, fi1, fi2, fi3] <;> first | rfl | exact ⟨rfl, rfl⟩)
          refine Rg.inc 67 F_Mo_passed_64 rfl rfl (by decide) ?_
          refine Rg.step 2 F_Mo_passed_67 rfl (fun _ => rfl) ?_
          refine Rg.step 3 F_Mo_passed_2 rfl (fun _ => rfl) ?_
          refine Rg.step 4 F_Mo_passed_3 rfl (fun _ => rfl) ?_
          refine Rg.icgeI 70 7 F_Mo_passed_4 rfl rfl (by omega) (by omega) (fun h4 => by omega) (fun _ => ?_)
          refine Rg.step 8 F_Mo_passed_7 rfl (fun _ => rfl) ?_
          refine Rg.step 9 F_Mo_passed_8 rfl (fun _ => rfl) ?_
          refine Rg.put 12 F_Mo_passed_9 rfl rF_26_305 (gM hp) (by decide) (Nat.le_of_ble_eq_true rfl) (Or.inl rfl) rfl (sM_point hp) ?_
          refine Rg.weak (t2 _ _ ?_) (by simp [lput1, lput2, Value.category, fi0, fi1, fi2, fi3] <;> first | rfl | exact ⟨rfl, rfl⟩) (by simp [lput1, lput2, Value.category, fi0, fi1, fi2, fi3] <;> first | rfl | exact ⟨rfl, rfl⟩)
          refine Rg.inc 67 F_Mo_passed_64 rfl rfl (by decide) ?_
          refine Rg.step 2 F_Mo_passed_67 rfl (fun _ => rfl) ?_
          refine Rg.step 3 F_Mo_passed_2 rfl (fun _ => rfl) ?_
          refine Rg.step 4 F_Mo_passed_3 rfl (fun _ => rfl) ?_
          refine Rg.icgeI 70 7 F_Mo_passed_4 rfl rfl (by omega) (by omega) (fun h4 => by omega) (fun _ => ?_)
          refine Rg.step 8 F_Mo_passed_7 rfl (fun _ => rfl) ?_
          refine Rg.step 9 F_Mo_passed_8 rfl (fun _ => rfl) ?_
          refine Rg.put 12 F_Mo_passed_9 rfl rF_26_305 (gM hp) (by decide) (Nat.le_of_ble_eq_true rfl) (Or.inl rfl) rfl (sM_point hp) ?_
          refine Rg.weak (t3 _ _ ?_) (by simp [lput1, lput2, Value.category, fi0, fi1, fi2, fi3] <;> first | rfl | exact ⟨rfl, rfl⟩) (by simp [lput1, lput2, Value.category, fi0, fi1, fi2, fi3] <;> first | rfl | exact ⟨rfl, rfl⟩)
          refine Rg.inc 67 F_Mo_passed_64 rfl rfl (by decide) ?_
          refine Rg.step 2 F_Mo_passed_67 rfl (fun _ => rfl) ?_
          refine Rg.step 3 F_Mo_passed_2 rfl (fun _ => rfl) ?_
          refine Rg.step 4 F_Mo_passed_3 rfl (fun _ => rfl) ?_
          refine Rg.icgeI 70 7 F_Mo_passed_4 rfl rfl (by omega) (by omega) (fun _ => ?_) (fun h4 => by omega)
          refine Rg.step 71 F_Mo_passed_70 rfl (fun _ => rfl) ?_
          refine Rg.call 74 F_Mo_passed_71 rfl (one_V rM_26_311 (by decide) (by simp) rfl rfl (gM hp) rfl) (Nat.le_of_ble_eq_true rfl) (c_Mo_keepState hp) ?_
          refine Rg.step 75 F_Mo_passed_74 rfl (fun _ => rfl) ?_
          refine Rg.step 76 F_Mo_passed_75 rfl (fun _ => rfl) ?_
          refine Rg.put 79 F_Mo_passed_76 rfl rF_26_305 (gM hp) (by decide) (Nat.le_of_ble_eq_true rfl) (Or.inl rfl) rfl (sM_point hp) ?_
          exact Rg.weak hr (by simp [lput1, lput2, Value.category, fi0, fi1, fi2, fi3] <;> first | rfl | exact ⟨rfl, rfl⟩) (by simp [lput1, lput2, Value.category, fi0, fi1, fi2, fi3] <;> first | rfl | exact ⟨rfl, rfl⟩)
        | inr S1 =>
          obtain ⟨F1, N1, D1⟩ := S1
          obtain ⟨w1, x1, y1, hr⟩ := pass_ch (d := d) (n0 := (MR pre code amountN amountD momentN momentD epsilonN epsilonD firstFacts firstN firstD wishes wants wantN wantD actions needs needTime needOf needHow needN needD changes changeTime changeOf changeHow changeN changeD lastOf lastN lastD steps stepAction startN startD lengthN lengthD rows row tried triedAction triedRows triedRow times unit facts numN numD oldFacts oldN oldD point judged fault faultPoint toldFacts toldN toldD outN outD pointN pointD gone now leastN leastD greatestN greatestD events post).length) (pre := pre) (post := post) (oldFacts := facts) (oldN := numN) (oldD := numD) hp hw wT wS wQ hact hlen (2 * steps).toNat 0 facts numN numD u3 v3 (by omega) (by omega) wN hC
          have hG : ∀ p, 0 ≤ p → p < 2 * steps → ((mix (2 * steps) (fun p => gone p ∨ now p) gone) p ↔ gone p ∨ now p) := fun p z1 z2 => by unfold mix; rw [if_pos z2]
          rcases fst_or (fun s => ((mix (2 * steps) (fun p => gone p ∨ now p) gone) (2 * s) ∧ ¬ (mix (2 * steps) (fun p => gone p ∨ now p) gone) (2 * s + 1) ∧ ¬ fit needs needTime needOf needHow needN needD F1 N1 D1 (triedAction s) 1)) steps wS.1 with ⟨s, s1, s2, s3, s4⟩ | ns
          · have hr5 := pass_over5 (d := d) (n0 := (MR pre code amountN amountD momentN momentD epsilonN epsilonD firstFacts firstN firstD wishes wants wantN wantD actions needs needTime needOf needHow needN needD changes changeTime changeOf changeHow changeN changeD lastOf lastN lastD steps stepAction startN startD lengthN lengthD rows row tried triedAction triedRows triedRow times unit facts numN numD oldFacts oldN oldD point judged fault faultPoint toldFacts toldN toldD outN outD pointN pointD gone now leastN leastD greatestN greatestD events post).length) (pre := pre) (post := post) (code := code) (amountN := amountN) (amountD := amountD) (momentN := momentN) (momentD := momentD) (epsilonN := epsilonN) (epsilonD := epsilonD) (firstFacts := firstFacts) (firstN := firstN) (firstD := firstD) (wishes := wishes) (wants := wants) (wantN := wantN) (wantD := wantD) (actions := actions) (needs := needs) (needTime := needTime) (needOf := needOf) (needHow := needHow) (needN := needN) (needD := needD) (changes := changes) (changeTime := changeTime) (changeOf := changeOf) (changeHow := changeHow) (changeN := changeN) (changeD := changeD) (lastOf := lastOf) (lastN := lastN) (lastD := lastD) (steps := steps) (stepAction := stepAction) (startN := startN) (startD := startD) (lengthN := lengthN) (lengthD := lengthD) (rows := rows) (row := row) (tried := tried) (triedAction := triedAction) (triedRows := triedRows) (triedRow := triedRow) (times := times) (unit := unit) (facts := F1) (numN := N1) (numD := D1) (oldFacts := facts) (oldN := numN) (oldD := numD) (judged := judged) (fault := fault) (faultPoint := faultPoint) (toldFacts := toldFacts) (toldN := toldN) (toldD := toldD) (outN := x1) (outD := y1) (pointN := pointN) (pointD := pointD) (gone := (mix (2 * steps) (fun p => gone p ∨ now p) gone)) (now := now) (leastN := leastN) (leastD := leastD) (greatestN := greatestN) (greatestD := greatestD) (events := events) hp hw wS hact w1 s2 s3 s.toNat 0 (2 * steps) (by omega) (by omega) (fun r z1 z2 => s4 r z1 z2)
            refine ⟨5, 2 * s, F1, N1, D1, (mix (2 * steps) (fun p => gone p ∨ now p) gone), facts, numN, numD, x1, y1, Or.inr ⟨nw, Or.inr ⟨hC, hG, Or.inl ⟨rfl, s, rfl, s1, by omega, s3, s4⟩⟩⟩, w1, by omega, fun _ _ => trivial, ?_⟩
            refine Cg.of (Nat.le_of_ble_eq_true rfl) ?_
            change Rg _ _ _ _ 0 [(0, .ref 168)] [] _ _ _
            refine Rg.step 1 F_Mo_passed_0 rfl (fun _ => rfl) ?_
            refine Rg.step 2 F_Mo_passed_1 rfl (fun _ => rfl) ?_
            refine Rg.step 3 F_Mo_passed_2 rfl (fun _ => rfl) ?_
            refine Rg.step 4 F_Mo_passed_3 rfl (fun _ => rfl) ?_
            refine Rg.icgeI 70 7 F_Mo_passed_4 rfl rfl (by omega) (by omega) (fun h4 => by omega) (fun _ => ?_)
            refine Rg.step 8 F_Mo_passed_7 rfl (fun _ => rfl) ?_
            refine Rg.step 9 F_Mo_passed_8 rfl (fun _ => rfl) ?_
            refine Rg.put 12 F_Mo_passed_9 rfl rF_26_305 (gM hp) (by decide) (Nat.le_of_ble_eq_true rfl) (Or.inl rfl) rfl (sM_point hp) ?_
            refine Rg.weak (t1 _ _ ?_) (by simp [lput1, lput2, Value.category, fi0, fi1, fi2, fi3] <;> first | rfl | exact ⟨rfl, rfl⟩) (by simp [lput1, lput2, Value.category, fi0, fi1, fi2, fi3] <;> first | rfl | exact ⟨rfl, rfl⟩)
            refine Rg.inc 67 F_Mo_passed_64 rfl rfl (by decide) ?_
            refine Rg.step 2 F_Mo_passed_67 rfl (fun _ => rfl) ?_
            refine Rg.step 3 F_Mo_passed_2 rfl (fun _ => rfl) ?_
            refine Rg.step 4 F_Mo_passed_3 rfl (fun _ => rfl) ?_
            refine Rg.icgeI 70 7 F_Mo_passed_4 rfl rfl (by omega) (by omega) (fun h4 => by omega) (fun _ => ?_)
            refine Rg.step 8 F_Mo_passed_7 rfl (fun _ => rfl) ?_
            refine Rg.step 9 F_Mo_passed_8 rfl (fun _ => rfl) ?_
            refine Rg.put 12 F_Mo_passed_9 rfl rF_26_305 (gM hp) (by decide) (Nat.le_of_ble_eq_true rfl) (Or.inl rfl) rfl (sM_point hp) ?_
            refine Rg.weak (t2 _ _ ?_) (by simp [lput1, lput2, Value.category, fi0, fi1, fi2, fi3] <;> first | rfl | exact ⟨rfl, rfl⟩) (by simp [lput1, lput2, Value.category, fi0, fi1, fi2, fi3] <;> first | rfl | exact ⟨rfl, rfl⟩)
            refine Rg.inc 67 F_Mo_passed_64 rfl rfl (by decide) ?_
            refine Rg.step 2 F_Mo_passed_67 rfl (fun _ => rfl) ?_
            refine Rg.step 3 F_Mo_passed_2 rfl (fun _ => rfl) ?_
            refine Rg.step 4 F_Mo_passed_3 rfl (fun _ => rfl) ?_
            refine Rg.icgeI 70 7 F_Mo_passed_4 rfl rfl (by omega) (by omega) (fun h4 => by omega) (fun _ => ?_)
            refine Rg.step 8 F_Mo_passed_7 rfl (fun _ => rfl) ?_
            refine Rg.step 9 F_Mo_passed_8 rfl (fun _ => rfl) ?_
            refine Rg.put 12 F_Mo_passed_9 rfl rF_26_305 (gM hp) (by decide) (Nat.le_of_ble_eq_true rfl) (Or.inl rfl) rfl (sM_point hp) ?_
            refine Rg.weak (t3 _ _ ?_) (by simp [lput1, lput2, Value.category, fi0, fi1, fi2, fi3] <;> first | rfl | exact ⟨rfl, rfl⟩) (by simp [lput1, lput2, Value.category, fi0, fi1, fi2, fi3] <;> first | rfl | exact ⟨rfl, rfl⟩)
            refine Rg.inc 67 F_Mo_passed_64 rfl rfl (by decide) ?_
            refine Rg.step 2 F_Mo_passed_67 rfl (fun _ => rfl) ?_
            refine Rg.step 3 F_Mo_passed_2 rfl (fun _ => rfl) ?_
            refine Rg.step 4 F_Mo_passed_3 rfl (fun _ => rfl) ?_
            refine Rg.icgeI 70 7 F_Mo_passed_4 rfl rfl (by omega) (by omega) (fun _ => ?_) (fun h4 => by omega)
            refine Rg.step 71 F_Mo_passed_70 rfl (fun _ => rfl) ?_
            refine Rg.call 74 F_Mo_passed_71 rfl (one_V rM_26_311 (by decide) (by simp) rfl rfl (gM hp) rfl) (Nat.le_of_ble_eq_true rfl) (c_Mo_keepState hp) ?_
            refine Rg.step 75 F_Mo_passed_74 rfl (fun _ => rfl) ?_
            refine Rg.step 76 F_Mo_passed_75 rfl (fun _ => rfl) ?_
            refine Rg.put 79 F_Mo_passed_76 rfl rF_26_305 (gM hp) (by decide) (Nat.le_of_ble_eq_true rfl) (Or.inl rfl) rfl (sM_point hp) ?_
            refine Rg.weak (hr _ _ ?_) (by simp [lput1, lput2, Value.category, fi0, fi1, fi2, fi3] <;> first | rfl | exact ⟨rfl, rfl⟩) (by simp [lput1, lput2, Value.category, fi0, fi1, fi2, fi3] <;> first | rfl | exact ⟨rfl, rfl⟩)
            refine Rg.step 138 F_Mo_passed_137 rfl (fun _ => rfl) ?_
            refine Rg.step 139 F_Mo_passed_138 rfl (fun _ => rfl) ?_
            refine Rg.frM (kR_gone (mix0_Z (fun p => gone p ∨ now p) gone)) (Rg.weak (pass_gone hp wS ?_ (2 * steps).toNat 0 (by omega) (by omega)) (by simp [lput1, lput2, Value.category, fi0, fi1, fi2, fi3] <;> first | rfl | exact ⟨rfl, rfl⟩) (by simp [lput1, lput2, Value.category, fi0, fi1, fi2, fi3] <;> first | rfl | exact ⟨rfl, rfl⟩))
            refine Rg.step 185 F_Mo_passed_184 rfl (fun _ => rfl) ?_
            refine Rg.step 186 F_Mo_passed_185 rfl (fun _ => rfl) ?_
            exact Rg.weak hr5 (by simp [lput1, lput2, Value.category, fi0, fi1, fi2, fi3] <;> first | rfl | exact ⟨rfl, rfl⟩) (by simp [lput1, lput2, Value.category, fi0, fi1, fi2, fi3] <;> first | rfl | exact ⟨rfl, rfl⟩)
          · obtain ⟨z1, hr0⟩ := pass_over (d := d) (n0 := (MR pre code amountN amountD momentN momentD epsilonN epsilonD firstFacts firstN firstD wishes wants wantN wantD actions needs needTime needOf needHow needN needD changes changeTime changeOf changeHow changeN changeD lastOf lastN lastD steps stepAction startN startD lengthN lengthD rows row tried triedAction triedRows triedRow times unit facts numN numD oldFacts oldN oldD point judged fault faultPoint toldFacts toldN toldD outN outD pointN pointD gone now leastN leastD greatestN greatestD events post).length) (pre := pre) (post := post) (facts := F1) (numN := N1) (numD := D1) (oldFacts := facts) (oldN := numN) (oldD := numD) (gone := (mix (2 * steps) (fun p => gone p ∨ now p) gone)) (outN := x1) (outD := y1) hp hw wS hact w1 steps.toNat 0 (2 * steps) (by omega) (by omega) (fun r z1 z2 => ns r z1 z2)
            refine ⟨0, z1, F1, N1, D1, (mix (2 * steps) (fun p => gone p ∨ now p) gone), facts, numN, numD, x1, y1, Or.inr ⟨nw, Or.inr ⟨hC, hG, Or.inr ⟨rfl, fun r y1 y2 => ns r y1 (by omega)⟩⟩⟩, w1, by omega, fun _ _ => trivial, ?_⟩
            refine Cg.of (Nat.le_of_ble_eq_true rfl) ?_
            change Rg _ _ _ _ 0 [(0, .ref 168)] [] _ _ _
            refine Rg.step 1 F_Mo_passed_0 rfl (fun _ => rfl) ?_
            refine Rg.step 2 F_Mo_passed_1 rfl (fun _ => rfl) ?_
            refine Rg.step 3 F_Mo_passed_2 rfl (fun _ => rfl) ?_
            refine Rg.step 4 F_Mo_passed_3 rfl (fun _ => rfl) ?_
            refine Rg.icgeI 70 7 F_Mo_passed_4 rfl rfl (by omega) (by omega) (fun h4 => by omega) (fun _ => ?_)
            refine Rg.step 8 F_Mo_passed_7 rfl (fun _ => rfl) ?_
            refine Rg.step 9 F_Mo_passed_8 rfl (fun _ => rfl) ?_
            refine Rg.put 12 F_Mo_passed_9 rfl rF_26_305 (gM hp) (by decide) (Nat.le_of_ble_eq_true rfl) (Or.inl rfl) rfl (sM_point hp) ?_
            refine Rg.weak (t1 _ _ ?_) (by simp [lput1, lput2, Value.category, fi0, fi1, fi2, fi3] <;> first | rfl | exact ⟨rfl, rfl⟩) (by simp [lput1, lput2, Value.category, fi0, fi1, fi2, fi3] <;> first | rfl | exact ⟨rfl, rfl⟩)
            refine Rg.inc 67 F_Mo_passed_64 rfl rfl (by decide) ?_
            refine Rg.step 2 F_Mo_passed_67 rfl (fun _ => rfl) ?_
            refine Rg.step 3 F_Mo_passed_2 rfl (fun _ => rfl) ?_
            refine Rg.step 4 F_Mo_passed_3 rfl (fun _ => rfl) ?_
            refine Rg.icgeI 70 7 F_Mo_passed_4 rfl rfl (by omega) (by omega) (fun h4 => by omega) (fun _ => ?_)
            refine Rg.step 8 F_Mo_passed_7 rfl (fun _ => rfl) ?_
            refine Rg.step 9 F_Mo_passed_8 rfl (fun _ => rfl) ?_
            refine Rg.put 12 F_Mo_passed_9 rfl rF_26_305 (gM hp) (by decide) (Nat.le_of_ble_eq_true rfl) (Or.inl rfl) rfl (sM_point hp) ?_
            refine Rg.weak (t2 _ _ ?_) (by simp [lput1, lput2, Value.category, fi0, fi1, fi2, fi3] <;> first | rfl | exact ⟨rfl, rfl⟩) (by simp [lput1, lput2, Value.category, fi0, fi1, fi2, fi3] <;> first | rfl | exact ⟨rfl, rfl⟩)
            refine Rg.inc 67 F_Mo_passed_64 rfl rfl (by decide) ?_
            refine Rg.step 2 F_Mo_passed_67 rfl (fun _ => rfl) ?_
            refine Rg.step 3 F_Mo_passed_2 rfl (fun _ => rfl) ?_
            refine Rg.step 4 F_Mo_passed_3 rfl (fun _ => rfl) ?_
            refine Rg.icgeI 70 7 F_Mo_passed_4 rfl rfl (by omega) (by omega) (fun h4 => by omega) (fun _ => ?_)
            refine Rg.step 8 F_Mo_passed_7 rfl (fun _ => rfl) ?_
            refine Rg.step 9 F_Mo_passed_8 rfl (fun _ => rfl) ?_
            refine Rg.put 12 F_Mo_passed_9 rfl rF_26_305 (gM hp) (by decide) (Nat.le_of_ble_eq_true rfl) (Or.inl rfl) rfl (sM_point hp) ?_
            refine Rg.weak (t3 _ _ ?_) (by simp [lput1, lput2, Value.category, fi0, fi1, fi2, fi3] <;> first | rfl | exact ⟨rfl, rfl⟩) (by simp [lput1, lput2, Value.category, fi0, fi1, fi2, fi3] <;> first | rfl | exact ⟨rfl, rfl⟩)
            refine Rg.inc 67 F_Mo_passed_64 rfl rfl (by decide) ?_
            refine Rg.step 2 F_Mo_passed_67 rfl (fun _ => rfl) ?_
            refine Rg.step 3 F_Mo_passed_2 rfl (fun _ => rfl) ?_
            refine Rg.step 4 F_Mo_passed_3 rfl (fun _ => rfl) ?_
            refine Rg.icgeI 70 7 F_Mo_passed_4 rfl rfl (by omega) (by omega) (fun _ => ?_) (fun h4 => by omega)
            refine Rg.step 71 F_Mo_passed_70 rfl (fun _ => rfl) ?_
            refine Rg.call 74 F_Mo_passed_71 rfl (one_V rM_26_311 (by decide) (by simp) rfl rfl (gM hp) rfl) (Nat.le_of_ble_eq_true rfl) (c_Mo_keepState hp) ?_
            refine Rg.step 75 F_Mo_passed_74 rfl (fun _ => rfl) ?_
            refine Rg.step 76 F_Mo_passed_75 rfl (fun _ => rfl) ?_
            refine Rg.put 79 F_Mo_passed_76 rfl rF_26_305 (gM hp) (by decide) (Nat.le_of_ble_eq_true rfl) (Or.inl rfl) rfl (sM_point hp) ?_
            refine Rg.weak (hr _ _ ?_) (by simp [lput1, lput2, Value.category, fi0, fi1, fi2, fi3] <;> first | rfl | exact ⟨rfl, rfl⟩) (by simp [lput1, lput2, Value.category, fi0, fi1, fi2, fi3] <;> first | rfl | exact ⟨rfl, rfl⟩)
            refine Rg.step 138 F_Mo_passed_137 rfl (fun _ => rfl) ?_
            refine Rg.step 139 F_Mo_passed_138 rfl (fun _ => rfl) ?_
            refine Rg.frM (kR_gone (mix0_Z (fun p => gone p ∨ now p) gone)) (Rg.weak (pass_gone hp wS ?_ (2 * steps).toNat 0 (by omega) (by omega)) (by simp [lput1, lput2, Value.category, fi0, fi1, fi2, fi3] <;> first | rfl | exact ⟨rfl, rfl⟩) (by simp [lput1, lput2, Value.category, fi0, fi1, fi2, fi3] <;> first | rfl | exact ⟨rfl, rfl⟩))
            refine Rg.step 185 F_Mo_passed_184 rfl (fun _ => rfl) ?_
            refine Rg.step 186 F_Mo_passed_185 rfl (fun _ => rfl) ?_
            exact Rg.weak hr0 (by simp [lput1, lput2, Value.category, fi0, fi1, fi2, fi3] <;> first | rfl | exact ⟨rfl, rfl⟩) (by simp [lput1, lput2, Value.category, fi0, fi1, fi2, fi3] <;> first | rfl | exact ⟨rfl, rfl⟩)
end R51
