/-! The reference: tell and judge. -/
theorem tf_ex {m : Int} {pN pD : Int → Int} {gone : Int → Prop} (wQ : ∀ p, 0 ≤ p → p < m → 0 ≤ pN p ∧ pN p ≤ 100000000000 ∧ 0 < pD p ∧ pD p ≤ 1000000) : ∀ n : Nat, (n : Int) ≤ m → (∀ q : Int, 0 ≤ q → q < n → gone q) ∨ (∃ b : Int, 0 ≤ b ∧ b < n ∧ ¬ gone b ∧ ∀ q : Int, 0 ≤ q → q < n → ¬ gone q → leF (pN b) (pD b) (pN q) (pD q)) := by
  intro n
  induction n with
  | zero => intro _; exact Or.inl (fun q z1 z2 => by omega)
  | succ n ih =>
    intro hn
    have hs : ((n + 1 : Nat) : Int) = (n : Int) + 1 := by omega
    rw [hs] at hn ⊢
    rcases ih (by omega) with h | ⟨b, b1, b2, b3, b4⟩
    · by_cases hg : gone n
      · refine Or.inl (fun q z1 z2 => ?_)
        by_cases hq : q = n
        · rw [hq]; exact hg
        · exact h q z1 (by omega)
      · refine Or.inr ⟨n, by omega, by omega, hg, fun q z1 z2 z3 => ?_⟩
        by_cases hq : q = n
        · rw [hq]; exact leF_refl _ _
        · exact absurd (h q z1 (by omega)) z3
    · by_cases hl : leF (pN b) (pD b) (pN n) (pD n)
      · refine Or.inr ⟨b, b1, by omega, b3, fun q z1 z2 z3 => ?_⟩
        by_cases hq : q = n
        · rw [hq]; exact hl
        · exact b4 q z1 (by omega) z3
      · by_cases hg : gone n
        · refine Or.inr ⟨b, b1, by omega, b3, fun q z1 z2 z3 => ?_⟩
          by_cases hq : q = n
          · exact absurd (hq ▸ hg) z3
          · exact b4 q z1 (by omega) z3
        · refine Or.inr ⟨n, by omega, by omega, hg, fun q z1 z2 z3 => ?_⟩
          by_cases hq : q = n
          · rw [hq]; exact leF_refl _ _
          · exact leF_trans (wQ n (by omega) (by omega)).2.2.1 (wQ b b1 (by omega)).2.2.1 (wQ q z1 (by omega)).2.2.1 ((leF_total _ _ _ _).resolve_left hl) (b4 q z1 (by omega) z3)
theorem tfst_ex {steps : Int} {pN pD : Int → Int} {gone : Int → Prop} (wQ : ∀ p, 0 ≤ p → p < 2 * steps → 0 ≤ pN p ∧ pN p ≤ 100000000000 ∧ 0 < pD p ∧ pD p ≤ 1000000) (h : ∃ p, 0 ≤ p ∧ p < 2 * steps ∧ ¬ gone p) : ∃ p, 0 ≤ p ∧ p < 2 * steps ∧ tfst steps pN pD gone p := by
  obtain ⟨p, p1, p2, p3⟩ := h
  rcases tf_ex (gone := gone) wQ (2 * steps).toNat (by omega) with h | ⟨b, b1, b2, b3, b4⟩
  · exact absurd (h p p1 (by omega)) p3
  · exact ⟨b, b1, by omega, b3, fun q z1 z2 z3 => b4 q z1 (by omega) z3⟩
theorem cntP_pos {A : Int → Prop} {p : Int} {n : Nat} (h0 : 0 ≤ p) (hn : p < n) (ha : A p) : 0 < cntP A n := Nat.lt_of_le_of_lt (Nat.zero_le (cntP (fun _ => False) n)) (cntP_lt (B := fun _ => False) h0 ha (fun z => z) n hn (fun _ _ _ z => z.elim))
section R52
variable {pre post mem : AM}
variable {code amountN amountD momentN momentD epsilonN epsilonD actions steps rows tried triedRows unit point judged fault faultPoint outN outD : Int}
variable {firstN firstD wishes wants wantN wantD needs needTime needOf needHow needN needD changes changeTime changeOf changeHow changeN changeD lastOf lastN lastD stepAction startN startD lengthN lengthD row triedAction triedRow times numN numD oldN oldD toldN toldD pointN pointD leastN leastD greatestN greatestD events : Int → Int}
variable {firstFacts facts oldFacts toldFacts gone now : Int → Prop}
theorem tell_l2 {d n0 : Nat} (hp : pre.length = 168) {w : Int} : ∀ (n : Nat) (k : Int), k + n = 8 → 0 ≤ k → Rg false d m_Mo_tell n0 59 [(2, .int (iI k)), (0, .ref 168), (1, .int (iI w))] [] (MR pre code amountN amountD momentN momentD epsilonN epsilonD firstFacts firstN firstD wishes wants wantN wantD actions needs needTime needOf needHow needN needD changes changeTime changeOf changeHow changeN changeD lastOf lastN lastD steps stepAction startN startD lengthN lengthD rows row tried triedAction triedRows triedRow times unit facts numN numD oldFacts oldN oldD point judged fault faultPoint toldFacts (mix k numN toldN) (mix k numD toldD) outN outD pointN pointD gone now leastN leastD greatestN greatestD events post) (.inl none) (MR pre code amountN amountD momentN momentD epsilonN epsilonD firstFacts firstN firstD wishes wants wantN wantD actions needs needTime needOf needHow needN needD changes changeTime changeOf changeHow changeN changeD lastOf lastN lastD steps stepAction startN startD lengthN lengthD rows row tried triedAction triedRows triedRow times unit facts numN numD oldFacts oldN oldD point judged fault faultPoint toldFacts (mix 8 numN toldN) (mix 8 numD toldD) outN outD pointN pointD gone now leastN leastD greatestN greatestD events post) := by
  intro n
  induction n with
  | zero =>
    intro k hk hk2
    have hk : k = 8 := by omega
    subst hk
    refine Rg.step 60 F_Mo_tell_59 rfl (fun _ => rfl) ?_
    refine Rg.bip 62 F_Mo_tell_60 rfl rfl ?_
    refine Rg.icgeI 95 65 F_Mo_tell_62 rfl rfl (by omega) (by omega) (fun _ => ?_) (fun h62 => by omega)
    exact Rg.retV F_Mo_tell_95 rfl rfl
  | succ n ih =>
    intro k hk hk2
    refine Rg.step 60 F_Mo_tell_59 rfl (fun _ => rfl) ?_
    refine Rg.bip 62 F_Mo_tell_60 rfl rfl ?_
    refine Rg.icgeI 95 65 F_Mo_tell_62 rfl rfl (by omega) (by omega) (fun h62 => by omega) (fun _ => ?_)
    refine Rg.step 66 F_Mo_tell_65 rfl (fun _ => rfl) ?_
    refine Rg.getf 69 F_Mo_tell_66 rfl rF_26_145 (gM hp) rfl ?_
    refine Rg.step 70 F_Mo_tell_69 rfl (fun _ => rfl) ?_
    refine Rg.step 71 F_Mo_tell_70 rfl (fun _ => rfl) ?_
    refine Rg.getf 74 F_Mo_tell_71 rfl rF_26_123 (gM hp) rfl ?_
    refine Rg.step 75 F_Mo_tell_74 rfl (fun _ => rfl) ?_
    refine Rg.lld 76 F_Mo_tell_75 rfl (gR_numN hp) (by omega) (by decide) ?_
    refine Rg.lst 77 F_Mo_tell_76 rfl (gR_toldN hp) (by decide) (sR_toldN hp) (by omega) (by decide) ?_
    refine Rg.step 78 F_Mo_tell_77 rfl (fun _ => rfl) ?_
    refine Rg.getf 81 F_Mo_tell_78 rfl rF_26_148 (gM hp) rfl ?_
    refine Rg.step 82 F_Mo_tell_81 rfl (fun _ => rfl) ?_
    refine Rg.step 83 F_Mo_tell_82 rfl (fun _ => rfl) ?_
    refine Rg.getf 86 F_Mo_tell_83 rfl rF_26_126 (gM hp) rfl ?_
    refine Rg.step 87 F_Mo_tell_86 rfl (fun _ => rfl) ?_
    refine Rg.lld 88 F_Mo_tell_87 rfl (gR_numD hp) (by omega) (by decide) ?_
    refine Rg.lst 89 F_Mo_tell_88 rfl (gR_toldD hp) (by decide) (sR_toldD hp) (by omega) (by decide) ?_
    refine Rg.inc 92 F_Mo_tell_89 rfl rfl (by decide) ?_
    refine Rg.step 59 F_Mo_tell_92 rfl (fun _ => rfl) ?_
    rw [mix_up, mix_up]
    exact Rg.weak (ih (k + 1) (by omega) (by omega)) (by simp [lput1, lput2, Value.category, fi0, fi1, fi2, fi3] <;> first | rfl | exact ⟨rfl, rfl⟩) (by simp [lput1, lput2, Value.category, fi0, fi1, fi2, fi3] <;> first | rfl | exact ⟨rfl, rfl⟩)
theorem tell_l1 {d n0 : Nat} (hp : pre.length = 168) {w : Int} : ∀ (n : Nat) (k : Int), k + n = 16 → 0 ≤ k → Rg false d m_Mo_tell n0 33 [(2, .int (iI k)), (0, .ref 168), (1, .int (iI w))] [] (MR pre code amountN amountD momentN momentD epsilonN epsilonD firstFacts firstN firstD wishes wants wantN wantD actions needs needTime needOf needHow needN needD changes changeTime changeOf changeHow changeN changeD lastOf lastN lastD steps stepAction startN startD lengthN lengthD rows row tried triedAction triedRows triedRow times unit facts numN numD oldFacts oldN oldD point judged fault faultPoint (mix k facts toldFacts) toldN toldD outN outD pointN pointD gone now leastN leastD greatestN greatestD events post) (.inl none) (MR pre code amountN amountD momentN momentD epsilonN epsilonD firstFacts firstN firstD wishes wants wantN wantD actions needs needTime needOf needHow needN needD changes changeTime changeOf changeHow changeN changeD lastOf lastN lastD steps stepAction startN startD lengthN lengthD rows row tried triedAction triedRows triedRow times unit facts numN numD oldFacts oldN oldD point judged fault faultPoint (mix 16 facts toldFacts) (mix 8 numN toldN) (mix 8 numD toldD) outN outD pointN pointD gone now leastN leastD greatestN greatestD events post) := by
  intro n
  induction n with
  | zero =>
    intro k hk hk2
    have hk : k = 16 := by omega
    subst hk
    refine Rg.step 34 F_Mo_tell_33 rfl (fun _ => rfl) ?_
    refine Rg.bip 36 F_Mo_tell_34 rfl rfl ?_
    refine Rg.icgeI 57 39 F_Mo_tell_36 rfl rfl (by omega) (by omega) (fun _ => ?_) (fun h36 => by omega)
    refine Rg.step 58 F_Mo_tell_57 rfl (fun _ => rfl) ?_
    refine Rg.step 59 F_Mo_tell_58 rfl (fun _ => rfl) ?_
    exact Rg.frM ((kR_toldN (mix0_L numN toldN)).trans (kR_toldD (mix0_L numD toldD))) (Rg.weak (tell_l2 hp 8 0 (by omega) (by omega)) (by simp [lput1, lput2, Value.category, fi0, fi1, fi2, fi3] <;> first | rfl | exact ⟨rfl, rfl⟩) (by simp [lput1, lput2, Value.category, fi0, fi1, fi2, fi3] <;> first | rfl | exact ⟨rfl, rfl⟩))
  | succ n ih =>
    intro k hk hk2
    refine Rg.step 34 F_Mo_tell_33 rfl (fun _ => rfl) ?_
    refine Rg.bip 36 F_Mo_tell_34 rfl rfl ?_
    refine Rg.icgeI 57 39 F_Mo_tell_36 rfl rfl (by omega) (by omega) (fun h36 => by omega) (fun _ => ?_)
    refine Rg.step 40 F_Mo_tell_39 rfl (fun _ => rfl) ?_
    refine Rg.getf 43 F_Mo_tell_40 rfl rF_26_142 (gM hp) rfl ?_
    refine Rg.step 44 F_Mo_tell_43 rfl (fun _ => rfl) ?_
    refine Rg.step 45 F_Mo_tell_44 rfl (fun _ => rfl) ?_
    refine Rg.getf 48 F_Mo_tell_45 rfl rF_26_120 (gM hp) rfl ?_
    refine Rg.step 49 F_Mo_tell_48 rfl (fun _ => rfl) ?_
    refine Rg.zld 50 F_Mo_tell_49 rfl (gR_facts hp) (by omega) (by decide) ?_
    refine Rg.zst 51 F_Mo_tell_50 rfl (gR_toldFacts hp) (by decide) (sR_toldFacts hp) (by omega) (by decide) ?_
    refine Rg.inc 54 F_Mo_tell_51 rfl rfl (by decide) ?_
    refine Rg.step 33 F_Mo_tell_54 rfl (fun _ => rfl) ?_
    rw [mix_up]
    exact Rg.weak (ih (k + 1) (by omega) (by omega)) (by simp [lput1, lput2, Value.category, fi0, fi1, fi2, fi3] <;> first | rfl | exact ⟨rfl, rfl⟩) (by simp [lput1, lput2, Value.category, fi0, fi1, fi2, fi3] <;> first | rfl | exact ⟨rfl, rfl⟩)
theorem c_Mo_tell1 {d : Nat}  (hp : pre.length = 168) {w : Int} (h : 1 ≤ w ∧ w ≤ 5) : Cg false (d + 1) m_Mo_tell [.ref 168, .int (iI w)] (MR pre code amountN amountD momentN momentD epsilonN epsilonD firstFacts firstN firstD wishes wants wantN wantD actions needs needTime needOf needHow needN needD changes changeTime changeOf changeHow changeN changeD lastOf lastN lastD steps stepAction startN startD lengthN lengthD rows row tried triedAction triedRows triedRow times unit facts numN numD oldFacts oldN oldD point judged fault faultPoint toldFacts toldN toldD outN outD pointN pointD gone now leastN leastD greatestN greatestD events post) (.inl none) (MR pre code amountN amountD momentN momentD epsilonN epsilonD firstFacts firstN firstD wishes wants wantN wantD actions needs needTime needOf needHow needN needD changes changeTime changeOf changeHow changeN changeD lastOf lastN lastD steps stepAction startN startD lengthN lengthD rows row tried triedAction triedRows triedRow times unit facts numN numD oldFacts oldN oldD point 1 w point facts numN numD outN outD pointN pointD gone now leastN leastD greatestN greatestD events post) := by
  refine Cg.of (Nat.le_of_ble_eq_true rfl) ?_
  change Rg _ _ _ _ 0 [(0, .ref 168), (1, .int (iI w))] [] _ _ _
  refine Rg.step 1 F_Mo_tell_0 rfl (fun _ => rfl) ?_
  refine Rg.step 2 F_Mo_tell_1 rfl (fun _ => rfl) ?_
  refine Rg.put 5 F_Mo_tell_2 rfl rF_26_320 (gM hp) (by decide) (Nat.le_of_ble_eq_true rfl) (Or.inl rfl) rfl (sM_judged hp) ?_
  refine Rg.step 6 F_Mo_tell_5 rfl (fun _ => rfl) ?_
  refine Rg.step 7 F_Mo_tell_6 rfl (fun _ => rfl) ?_
  refine Rg.put 10 F_Mo_tell_7 rfl rF_26_324 (gM hp) (by decide) (Nat.le_of_ble_eq_true rfl) (Or.inl rfl) rfl (sM_fault hp) ?_
  refine Rg.step 11 F_Mo_tell_10 rfl (fun _ => rfl) ?_
  refine Rg.step 12 F_Mo_tell_11 rfl (fun _ => rfl) ?_
  refine Rg.step 13 F_Mo_tell_12 rfl (fun _ => rfl) ?_
  refine Rg.step 14 F_Mo_tell_13 rfl (fun _ => rfl) ?_
  refine Rg.call 17 F_Mo_tell_14 rfl (one_S (by decide +kernel) rM_26_200 (by decide) (by simp) rfl rfl) (Nat.le_of_ble_eq_true rfl) (Cg.any (c_Mo_in (by omega) (by omega) (by omega))) ?_
  refine Rg.ifeqP 27 20 F_Mo_tell_17 rfl rfl (fun h17 => by omega) (fun _ => ?_)
  refine Rg.step 21 F_Mo_tell_20 rfl (fun _ => rfl) ?_
  refine Rg.getf 24 F_Mo_tell_21 rfl rF_26_305 (gM hp) rfl ?_
  refine Rg.step 28 F_Mo_tell_24 rfl (fun _ => rfl) ?_
  refine Rg.put 31 F_Mo_tell_28 rfl rF_26_138 (gM hp) (by decide) (Nat.le_of_ble_eq_true rfl) (Or.inl rfl) rfl (sM_faultPoint hp) ?_
  refine Rg.step 32 F_Mo_tell_31 rfl (fun _ => rfl) ?_
  refine Rg.step 33 F_Mo_tell_32 rfl (fun _ => rfl) ?_
  refine Rg.toM ((kR_toldFacts (mix_Z facts toldFacts)).trans ((kR_toldN (mix_L numN toldN)).trans (kR_toldD (mix_L numD toldD)))) ?_
  exact Rg.frM (kR_toldFacts (mix0_Z facts toldFacts)) (Rg.weak (tell_l1 hp 16 0 (by omega) (by omega)) (by simp [lput1, lput2, Value.category, fi0, fi1, fi2, fi3] <;> first | rfl | exact ⟨rfl, rfl⟩) (by simp [lput1, lput2, Value.category, fi0, fi1, fi2, fi3] <;> first | rfl | exact ⟨rfl, rfl⟩))
theorem c_Mo_tell0 {d : Nat}  (hp : pre.length = 168) {w : Int} (hb : -2147483648 ≤ w ∧ w < 2147483648) (h : ¬ (1 ≤ w ∧ w ≤ 5)) : Cg false (d + 1) m_Mo_tell [.ref 168, .int (iI w)] (MR pre code amountN amountD momentN momentD epsilonN epsilonD firstFacts firstN firstD wishes wants wantN wantD actions needs needTime needOf needHow needN needD changes changeTime changeOf changeHow changeN changeD lastOf lastN lastD steps stepAction startN startD lengthN lengthD rows row tried triedAction triedRows triedRow times unit facts numN numD oldFacts oldN oldD point judged fault faultPoint toldFacts toldN toldD outN outD pointN pointD gone now leastN leastD greatestN greatestD events post) (.inl none) (MR pre code amountN amountD momentN momentD epsilonN epsilonD firstFacts firstN firstD wishes wants wantN wantD actions needs needTime needOf needHow needN needD changes changeTime changeOf changeHow changeN changeD lastOf lastN lastD steps stepAction startN startD lengthN lengthD rows row tried triedAction triedRows triedRow times unit facts numN numD oldFacts oldN oldD point 1 w (-1) facts numN numD outN outD pointN pointD gone now leastN leastD greatestN greatestD events post) := by
  refine Cg.of (Nat.le_of_ble_eq_true rfl) ?_
  change Rg _ _ _ _ 0 [(0, .ref 168), (1, .int (iI w))] [] _ _ _
  refine Rg.step 1 F_Mo_tell_0 rfl (fun _ => rfl) ?_
  refine Rg.step 2 F_Mo_tell_1 rfl (fun _ => rfl) ?_
  refine Rg.put 5 F_Mo_tell_2 rfl rF_26_320 (gM hp) (by decide) (Nat.le_of_ble_eq_true rfl) (Or.inl rfl) rfl (sM_judged hp) ?_
  refine Rg.step 6 F_Mo_tell_5 rfl (fun _ => rfl) ?_
  refine Rg.step 7 F_Mo_tell_6 rfl (fun _ => rfl) ?_
  refine Rg.put 10 F_Mo_tell_7 rfl rF_26_324 (gM hp) (by decide) (Nat.le_of_ble_eq_true rfl) (Or.inl rfl) rfl (sM_fault hp) ?_
  refine Rg.step 11 F_Mo_tell_10 rfl (fun _ => rfl) ?_
  refine Rg.step 12 F_Mo_tell_11 rfl (fun _ => rfl) ?_
  refine Rg.step 13 F_Mo_tell_12 rfl (fun _ => rfl) ?_
  refine Rg.step 14 F_Mo_tell_13 rfl (fun _ => rfl) ?_
  refine Rg.call 17 F_Mo_tell_14 rfl (one_S (by decide +kernel) rM_26_200 (by decide) (by simp) rfl rfl) (Nat.le_of_ble_eq_true rfl) (Cg.any (c_Mo_in (by omega) (by omega) (by omega))) ?_
  refine Rg.ifeqP 27 20 F_Mo_tell_17 rfl rfl (fun _ => ?_) (fun h17 => by omega)
  refine Rg.step 28 F_Mo_tell_27 rfl (fun _ => rfl) ?_
  refine Rg.put 31 F_Mo_tell_28 rfl rF_26_138 (gM hp) (by decide) (Nat.le_of_ble_eq_true rfl) (Or.inl rfl) rfl (sM_faultPoint hp) ?_
  refine Rg.step 32 F_Mo_tell_31 rfl (fun _ => rfl) ?_
  refine Rg.step 33 F_Mo_tell_32 rfl (fun _ => rfl) ?_
  refine Rg.toM ((kR_toldFacts (mix_Z facts toldFacts)).trans ((kR_toldN (mix_L numN toldN)).trans (kR_toldD (mix_L numD toldD)))) ?_
  exact Rg.frM (kR_toldFacts (mix0_Z facts toldFacts)) (Rg.weak (tell_l1 hp 16 0 (by omega) (by omega)) (by simp [lput1, lput2, Value.category, fi0, fi1, fi2, fi3] <;> first | rfl | exact ⟨rfl, rfl⟩) (by simp [lput1, lput2, Value.category, fi0, fi1, fi2, fi3] <;> first | rfl | exact ⟨rfl, rfl⟩))
theorem judge_gone {d n0 : Nat} (hp : pre.length = 168) {o : Option Value ⊕ Nat} {mem1 : AM} (hg : Rg false d m_Mo_judge n0 38 [(1, .int (iI 24)), (0, .ref 168)] [] (MR pre code amountN amountD momentN momentD epsilonN epsilonD firstFacts firstN firstD wishes wants wantN wantD actions needs needTime needOf needHow needN needD changes changeTime changeOf changeHow changeN changeD lastOf lastN lastD steps stepAction startN startD lengthN lengthD rows row tried triedAction triedRows triedRow times unit facts numN numD oldFacts oldN oldD point judged fault faultPoint toldFacts toldN toldD outN outD pointN pointD (mix 24 (fun _ => False) gone) now leastN leastD greatestN greatestD events post) o mem1) : ∀ (n : Nat) (k : Int), k + n = 24 → 0 ≤ k → Rg false d m_Mo_judge n0 19 [(1, .int (iI k)), (0, .ref 168)] [] (MR pre code amountN amountD momentN momentD epsilonN epsilonD firstFacts firstN firstD wishes wants wantN wantD actions needs needTime needOf needHow needN needD changes changeTime changeOf changeHow changeN changeD lastOf lastN lastD steps stepAction startN startD lengthN lengthD rows row tried triedAction triedRows triedRow times unit facts numN numD oldFacts oldN oldD point judged fault faultPoint toldFacts toldN toldD outN outD pointN pointD (mix k (fun _ => False) gone) now leastN leastD greatestN greatestD events post) o mem1 := by
  intro n
  induction n with
  | zero =>
    intro k hk hk2
    have hk : k = 24 := by omega
    subst hk
    refine Rg.step 20 F_Mo_judge_19 rfl (fun _ => rfl) ?_
    refine Rg.bip 22 F_Mo_judge_20 rfl rfl ?_
    refine Rg.icgeI 38 25 F_Mo_judge_22 rfl rfl (by omega) (by omega) (fun _ => ?_) (fun h22 => by omega)
    exact Rg.weak hg (by simp [lput1, lput2, Value.category, fi0, fi1, fi2, fi3] <;> first | rfl | exact ⟨rfl, rfl⟩) (by simp [lput1, lput2, Value.category, fi0, fi1, fi2, fi3] <;> first | rfl | exact ⟨rfl, rfl⟩)
  | succ n ih =>
    intro k hk hk2
    refine Rg.step 20 F_Mo_judge_19 rfl (fun _ => rfl) ?_
    refine Rg.bip 22 F_Mo_judge_20 rfl rfl ?_
    refine Rg.icgeI 38 25 F_Mo_judge_22 rfl rfl (by omega) (by omega) (fun h22 => by omega) (fun _ => ?_)
    refine Rg.step 26 F_Mo_judge_25 rfl (fun _ => rfl) ?_
    refine Rg.getf 29 F_Mo_judge_26 rfl rF_26_157 (gM hp) rfl ?_
    refine Rg.step 30 F_Mo_judge_29 rfl (fun _ => rfl) ?_
    refine Rg.cP0 (B := False) 31 F_Mo_judge_30 rfl (fun z => z) ?_
    refine Rg.zst 32 F_Mo_judge_31 rfl (gR_gone hp) (by decide) (sR_gone hp) (by omega) (by decide) ?_
    refine Rg.inc 35 F_Mo_judge_32 rfl rfl (by decide) ?_
    refine Rg.step 19 F_Mo_judge_35 rfl (fun _ => rfl) ?_
    rw [mix_up (f := (fun _ => False))]
    exact Rg.weak (ih (k + 1) (by omega) (by omega)) (by simp [lput1, lput2, Value.category, fi0, fi1, fi2, fi3] <;> first | rfl | exact ⟨rfl, rfl⟩) (by simp [lput1, lput2, Value.category, fi0, fi1, fi2, fi3] <;> first | rfl | exact ⟨rfl, rfl⟩)
theorem judge_loop {d n0 : Nat} (hp : pre.length = 168) (hw : WT epsilonN epsilonD wishes wants wantN wantD actions needs needTime needOf needHow needN needD changes changeTime changeOf changeHow changeN changeD lastOf lastN lastD firstN firstD) (wT : ∀ s, 0 ≤ triedAction s ∧ triedAction s < 12) (wS : 0 ≤ steps ∧ steps ≤ 12) (wQ : ∀ p, 0 ≤ p → p < 2 * steps → 0 ≤ pointN p ∧ pointN p ≤ 100000000000 ∧ 0 < pointD p ∧ pointD p ≤ 1000000) (hact : ∀ s, 0 ≤ s → s < steps → 0 ≤ triedAction s ∧ triedAction s < actions) (hlen : ∀ s, 0 ≤ s → s < steps → 0 < lengthN s ∧ lengthN s ≤ 100000000000 ∧ 0 < lengthD s ∧ lengthD s ≤ 1000000) : ∀ (n : Nat) (F0 : Int → Prop) (N0 D0 : Int → Int) (G0 H0 : Int → Prop) (p0 x0 y0 : Int) (F9 : Int → Prop) (N9 D9 : Int → Int), cntP (fun p => ¬ G0 p) (2 * steps).toNat ≤ n → WN N0 D0 → ∃ (why pt : Int) (F1 : Int → Prop) (N1 D1 : Int → Int) (G1 H1 F2 : Int → Prop) (N2 D2 : Int → Int) (x1 y1 : Int), JR (2 * steps) (wrongR steps triedAction needs needTime needHow needOf needN needD lastOf lastN lastD changes changeTime changeHow changeOf epsilonN epsilonD pointN pointD lengthN lengthD) (fun now S => chRow triedAction changes changeTime changeOf changeHow changeN changeD now (2 * steps).toNat 0 S) (fun S s => fit needs needTime needOf needHow needN needD S.1 S.2.1 S.2.2 (triedAction s) 1) (fun gone p => tfst steps pointN pointD gone p) n G0 (F0, N0, D0) why pt (F1, N1, D1) ∧ WN N1 D1 ∧ (0 ≤ why ∧ why ≤ 5) ∧ ∀ o mem1, Rg false (d + 8) m_Mo_judge n0 59 [(1, .int (iI why)), (0, .ref 168)] [] (MR pre code amountN amountD momentN momentD epsilonN epsilonD firstFacts firstN firstD wishes wants wantN wantD actions needs needTime needOf needHow needN needD changes changeTime changeOf changeHow changeN changeD lastOf lastN lastD steps stepAction startN startD lengthN lengthD rows row tried triedAction triedRows triedRow times unit F1 N1 D1 F2 N2 D2 pt judged fault faultPoint toldFacts toldN toldD x1 y1 pointN pointD G1 H1 leastN leastD greatestN greatestD events post) o mem1 → Rg false (d + 8) m_Mo_judge n0 40 [(1, .int (iI 0)), (0, .ref 168)] [] (MR pre code amountN amountD momentN momentD epsilonN epsilonD firstFacts firstN firstD wishes wants wantN wantD actions needs needTime needOf needHow needN needD changes changeTime changeOf changeHow changeN changeD lastOf lastN lastD steps stepAction startN startD lengthN lengthD rows row tried triedAction triedRows triedRow times unit F0 N0 D0 F9 N9 D9 p0 judged fault faultPoint toldFacts toldN toldD x0 y0 pointN pointD G0 H0 leastN leastD greatestN greatestD events post) o mem1 := by
  intro n
  induction n with
  | zero =>
    intro F0 N0 D0 G0 H0 p0 x0 y0 F9 N9 D9 hc wN
    have hall : ∀ p, 0 ≤ p → p < 2 * steps → G0 p := fun p z1 z2 => Classical.byContradiction (fun z => absurd (cntP_pos (A := fun p => ¬ G0 p) (n := (2 * steps).toNat) z1 (by omega) z) (by omega))
    refine ⟨0, p0, F0, N0, D0, G0, mix (2 * steps) (fun p => tfst steps pointN pointD G0 p) H0, F9, N9, D9, x0, y0, ⟨hall, rfl, rfl⟩, wN, by omega, fun o mem1 hg => ?_⟩
    refine Rg.step 41 F_Mo_judge_40 rfl (fun _ => rfl) ?_
    refine Rg.ifneI 59 44 F_Mo_judge_41 rfl rfl (by omega) (fun h41 => by omega) (fun _ => ?_)
    refine Rg.step 45 F_Mo_judge_44 rfl (fun _ => rfl) ?_
    refine Rg.call 48 F_Mo_judge_45 rfl (one_V rM_26_336 (by decide) (by simp) rfl rfl (gM hp) rfl) (Nat.le_of_ble_eq_true rfl) (c_Mo_mark hp wS wQ) ?_
    refine Rg.ifeqP 59 51 F_Mo_judge_48 rfl rfl (fun _ => ?_) (fun h48 => absurd h48 (fun ⟨p, z1, z2, z3⟩ => z3 (hall p z1 z2)))
    exact Rg.weak hg (by simp [lput1, lput2, Value.category, fi0, fi1, fi2, fi3] <;> first | rfl | exact ⟨rfl, rfl⟩) (by simp [lput1, lput2, Value.category, fi0, fi1, fi2, fi3] <;> first | rfl | exact ⟨rfl, rfl⟩)
  | succ n ih =>
    intro F0 N0 D0 G0 H0 p0 x0 y0 F9 N9 D9 hc wN
    by_cases hall : ∀ p, 0 ≤ p → p < 2 * steps → G0 p
    · skip
      refine ⟨0, p0, F0, N0, D0, G0, mix (2 * steps) (fun p => tfst steps pointN pointD G0 p) H0, F9, N9, D9, x0, y0, Or.inl ⟨hall, rfl, rfl⟩, wN, by omega, fun o mem1 hg => ?_⟩
      refine Rg.step 41 F_Mo_judge_40 rfl (fun _ => rfl) ?_
      refine Rg.ifneI 59 44 F_Mo_judge_41 rfl rfl (by omega) (fun h41 => by omega) (fun _ => ?_)
      refine Rg.step 45 F_Mo_judge_44 rfl (fun _ => rfl) ?_
      refine Rg.call 48 F_Mo_judge_45 rfl (one_V rM_26_336 (by decide) (by simp) rfl rfl (gM hp) rfl) (Nat.le_of_ble_eq_true rfl) (c_Mo_mark hp wS wQ) ?_
      refine Rg.ifeqP 59 51 F_Mo_judge_48 rfl rfl (fun _ => ?_) (fun h48 => absurd h48 (fun ⟨p, z1, z2, z3⟩ => z3 (hall p z1 z2)))
      exact Rg.weak hg (by simp [lput1, lput2, Value.category, fi0, fi1, fi2, fi3] <;> first | rfl | exact ⟨rfl, rfl⟩) (by simp [lput1, lput2, Value.category, fi0, fi1, fi2, fi3] <;> first | rfl | exact ⟨rfl, rfl⟩)
    · have hex : ∃ p, 0 ≤ p ∧ p < 2 * steps ∧ ¬ G0 p := Classical.byContradiction (fun z => hall (fun p z1 z2 => Classical.byContradiction (fun y => z ⟨p, z1, z2, y⟩)))
      have hT : ∀ p, 0 ≤ p → p < 2 * steps → ((mix (2 * steps) (fun p => tfst steps pointN pointD G0 p) H0) p ↔ tfst steps pointN pointD G0 p) := fun p z1 z2 => by unfold mix; rw [if_pos z2]
      obtain ⟨why1, pt1, Fa, Na, Da, Ga, Fb, Nb, Db, xa, ya, hP, wN1, hwy, -, hcall⟩ := c_Mo_passed (d := d) (pre := pre) (post := post) (code := code) (amountN := amountN) (amountD := amountD) (momentN := momentN) (momentD := momentD) (epsilonN := epsilonN) (epsilonD := epsilonD) (firstFacts := firstFacts) (firstN := firstN) (firstD := firstD) (wishes := wishes) (wants := wants) (wantN := wantN) (wantD := wantD) (actions := actions) (needs := needs) (needTime := needTime) (needOf := needOf) (needHow := needHow) (needN := needN) (needD := needD) (changes := changes) (changeTime := changeTime) (changeOf := changeOf) (changeHow := changeHow) (changeN := changeN) (changeD := changeD) (lastOf := lastOf) (lastN := lastN) (lastD := lastD) (steps := steps) (stepAction := stepAction) (startN := startN) (startD := startD) (lengthN := lengthN) (lengthD := lengthD) (rows := rows) (row := row) (tried := tried) (triedAction := triedAction) (triedRows := triedRows) (triedRow := triedRow) (times := times) (unit := unit) (facts := F0) (numN := N0) (numD := D0) (oldFacts := F9) (oldN := N9) (oldD := D9) (point := p0) (judged := judged) (fault := fault) (faultPoint := faultPoint) (toldFacts := toldFacts) (toldN := toldN) (toldD := toldD) (outN := x0) (outD := y0) (pointN := pointN) (pointD := pointD) (gone := G0) (now := (mix (2 * steps) (fun p => tfst steps pointN pointD G0 p) H0)) (leastN := leastN) (leastD := leastD) (greatestN := greatestN) (greatestD := greatestD) (events := events) hp hw wT wS wQ hact hlen wN
      by_cases hw0 : why1 = 0
      · subst hw0
        have hG : ∀ p, 0 ≤ p → p < 2 * steps → (Ga p ↔ G0 p ∨ (mix (2 * steps) (fun p => tfst steps pointN pointD G0 p) H0) p) := by
          rcases hP with z | ⟨-, z | z⟩
          · exact absurd z.1 (by omega)
          · exact absurd z.1 (by omega)
          · exact z.2.1
        obtain ⟨pm, m1, m2, m3⟩ := tfst_ex (gone := G0) wQ hex
        have hlt : cntP (fun p => ¬ Ga p) (2 * steps).toNat < cntP (fun p => ¬ G0 p) (2 * steps).toNat :=
          cntP_lt (A := fun p => ¬ G0 p) (B := fun p => ¬ Ga p) m1 m3.1 (fun z => z ((hG pm m1 m2).mpr (Or.inr ((hT pm m1 m2).mpr m3)))) (2 * steps).toNat (by omega) (fun q z1 z2 z3 y => z3 ((hG q z1 (by omega)).mpr (Or.inl y)))
        obtain ⟨why, pt, F1, N1, D1, G1, H1, F2, N2, D2, x1, y1, hJ, wN2, hwb, ht⟩ := ih Fa Na Da Ga (mix (2 * steps) (fun p => tfst steps pointN pointD G0 p) H0) pt1 xa ya Fb Nb Db (by omega) wN1
        refine ⟨why, pt, F1, N1, D1, G1, H1, F2, N2, D2, x1, y1, Or.inr ⟨hex, (mix (2 * steps) (fun p => tfst steps pointN pointD G0 p) H0), 0, pt1, (Fa, Na, Da), Ga, hT, hP, Or.inr ⟨rfl, hJ⟩⟩, wN2, hwb, fun o mem1 hg => ?_⟩
        refine Rg.step 41 F_Mo_judge_40 rfl (fun _ => rfl) ?_
        refine Rg.ifneI 59 44 F_Mo_judge_41 rfl rfl (by omega) (fun h41 => by omega) (fun _ => ?_)
        refine Rg.step 45 F_Mo_judge_44 rfl (fun _ => rfl) ?_
        refine Rg.call 48 F_Mo_judge_45 rfl (one_V rM_26_336 (by decide) (by simp) rfl rfl (gM hp) rfl) (Nat.le_of_ble_eq_true rfl) (c_Mo_mark hp wS wQ) ?_
        refine Rg.ifeqP 59 51 F_Mo_judge_48 rfl rfl (fun h48 => absurd hex h48) (fun _ => ?_)
        refine Rg.step 52 F_Mo_judge_51 rfl (fun _ => rfl) ?_
        refine Rg.call 55 F_Mo_judge_52 rfl (one_V rM_26_340 (by decide) (by simp) rfl rfl (gM hp) rfl) (Nat.le_of_ble_eq_true rfl) hcall ?_
        refine Rg.step 56 F_Mo_judge_55 rfl (fun _ => rfl) ?_
        refine Rg.step 40 F_Mo_judge_56 rfl (fun _ => rfl) ?_
        exact Rg.weak (ht o mem1 hg) (by simp [lput1, lput2, Value.category, fi0, fi1, fi2, fi3] <;> first | rfl | exact ⟨rfl, rfl⟩) (by simp [lput1, lput2, Value.category, fi0, fi1, fi2, fi3] <;> first | rfl | exact ⟨rfl, rfl⟩)
      · refine ⟨why1, pt1, Fa, Na, Da, Ga, (mix (2 * steps) (fun p => tfst steps pointN pointD G0 p) H0), Fb, Nb, Db, xa, ya, Or.inr ⟨hex, (mix (2 * steps) (fun p => tfst steps pointN pointD G0 p) H0), why1, pt1, (Fa, Na, Da), Ga, hT, hP, Or.inl ⟨hw0, rfl, rfl, rfl⟩⟩, wN1, hwy, fun o mem1 hg => ?_⟩
        refine Rg.step 41 F_Mo_judge_40 rfl (fun _ => rfl) ?_
        refine Rg.ifneI 59 44 F_Mo_judge_41 rfl rfl (by omega) (fun h41 => by omega) (fun _ => ?_)
        refine Rg.step 45 F_Mo_judge_44 rfl (fun _ => rfl) ?_
        refine Rg.call 48 F_Mo_judge_45 rfl (one_V rM_26_336 (by decide) (by simp) rfl rfl (gM hp) rfl) (Nat.le_of_ble_eq_true rfl) (c_Mo_mark hp wS wQ) ?_
        refine Rg.ifeqP 59 51 F_Mo_judge_48 rfl rfl (fun h48 => absurd hex h48) (fun _ => ?_)
        refine Rg.step 52 F_Mo_judge_51 rfl (fun _ => rfl) ?_
        refine Rg.call 55 F_Mo_judge_52 rfl (one_V rM_26_340 (by decide) (by simp) rfl rfl (gM hp) rfl) (Nat.le_of_ble_eq_true rfl) hcall ?_
        refine Rg.step 56 F_Mo_judge_55 rfl (fun _ => rfl) ?_
        refine Rg.step 40 F_Mo_judge_56 rfl (fun _ => rfl) ?_
        skip
        refine Rg.step 41 F_Mo_judge_40 rfl (fun _ => rfl) ?_
        refine Rg.ifneI 59 44 F_Mo_judge_41 rfl rfl (by omega) (fun _ => ?_) (fun h41 => by omega)
        exact Rg.weak hg (by simp [lput1, lput2, Value.category, fi0, fi1, fi2, fi3] <;> first | rfl | exact ⟨rfl, rfl⟩) (by simp [lput1, lput2, Value.category, fi0, fi1, fi2, fi3] <;> first | rfl | exact ⟨rfl, rfl⟩)
theorem c_Mo_judge {d : Nat} (hp : pre.length = 168) (hw : WT epsilonN epsilonD wishes wants wantN wantD actions needs needTime needOf needHow needN needD changes changeTime changeOf changeHow changeN changeD lastOf lastN lastD firstN firstD) (wT : ∀ s, 0 ≤ triedAction s ∧ triedAction s < 12) (wS : 0 ≤ steps ∧ steps ≤ 12) (wR : 0 ≤ rows ∧ rows ≤ 24) (wP : WPL steps startN startD lengthN lengthD) (hB : ∀ s, 0 ≤ stepAction s ∧ stepAction s < 12) (hA : ∀ s, 0 ≤ s → s < steps → 0 ≤ stepAction s ∧ stepAction s < actions) : ∃ (why pt : Int) (F1 : Int → Prop) (N1 D1 : Int → Int) (G1 H1 F2 : Int → Prop) (N2 D2 : Int → Int) (x1 y1 V FP : Int), JR (2 * steps) (wrongR steps (mix steps stepAction triedAction) needs needTime needHow needOf needN needD lastOf lastN lastD changes changeTime changeHow changeOf epsilonN epsilonD (mix (2 * steps) (ptN startN startD lengthN lengthD) pointN) (mix (2 * steps) (ptD startN startD lengthN lengthD) pointD) lengthN lengthD) (fun now S => chRow (mix steps stepAction triedAction) changes changeTime changeOf changeHow changeN changeD now (2 * steps).toNat 0 S) (fun S s => fit needs needTime needOf needHow needN needD S.1 S.2.1 S.2.2 ((mix steps stepAction triedAction) s) 1) (fun gone p => tfst steps (mix (2 * steps) (ptN startN startD lengthN lengthD) pointN) (mix (2 * steps) (ptD startN startD lengthN lengthD) pointD) gone p) 24 (fun _ => False) (firstFacts, firstN, firstD) why pt (F1, N1, D1) ∧ WN N1 D1 ∧ ((1 ≤ why ∧ why ≤ 5 ∧ V = why ∧ FP = pt) ∨ (why = 0 ∧ V = 0 ∧ FP = -1 ∧ goal wishes wants wantN wantD F1 N1 D1) ∨ (why = 0 ∧ V = 6 ∧ FP = -1 ∧ ¬ goal wishes wants wantN wantD F1 N1 D1)) ∧ Cg false (d + 8) m_Mo_judge [.ref 168] (MR pre code amountN amountD momentN momentD epsilonN epsilonD firstFacts firstN firstD wishes wants wantN wantD actions needs needTime needOf needHow needN needD changes changeTime changeOf changeHow changeN changeD lastOf lastN lastD steps stepAction startN startD lengthN lengthD rows row tried triedAction triedRows triedRow times unit facts numN numD oldFacts oldN oldD point judged fault faultPoint toldFacts toldN toldD outN outD pointN pointD gone now leastN leastD greatestN greatestD events post) (.inl (some (.int (iI V)))) (MR pre 0 amountN amountD momentN momentD epsilonN epsilonD firstFacts firstN firstD wishes wants wantN wantD actions needs needTime needOf needHow needN needD changes changeTime changeOf changeHow changeN changeD lastOf lastN lastD steps stepAction startN startD lengthN lengthD rows row steps (mix steps stepAction triedAction) rows (mix rows row triedRow) times unit F1 N1 D1 F2 N2 D2 pt 1 V FP F1 N1 D1 x1 y1 (mix (2 * steps) (ptN startN startD lengthN lengthD) pointN) (mix (2 * steps) (ptD startN startD lengthN lengthD) pointD) G1 H1 leastN leastD greatestN greatestD events post) := by
  obtain ⟨xt, yt, htt⟩ := c_Mo_takeTimes (d := d + 4) (pre := pre) (post := post) (code := 0) (amountN := amountN) (amountD := amountD) (momentN := momentN) (momentD := momentD) (epsilonN := epsilonN) (epsilonD := epsilonD) (firstFacts := firstFacts) (firstN := firstN) (firstD := firstD) (wishes := wishes) (wants := wants) (wantN := wantN) (wantD := wantD) (actions := actions) (needs := needs) (needTime := needTime) (needOf := needOf) (needHow := needHow) (needN := needN) (needD := needD) (changes := changes) (changeTime := changeTime) (changeOf := changeOf) (changeHow := changeHow) (changeN := changeN) (changeD := changeD) (lastOf := lastOf) (lastN := lastN) (lastD := lastD) (steps := steps) (stepAction := stepAction) (startN := startN) (startD := startD) (lengthN := lengthN) (lengthD := lengthD) (rows := rows) (row := row) (tried := steps) (triedAction := (mix steps stepAction triedAction)) (triedRows := rows) (triedRow := (mix rows row triedRow)) (times := times) (unit := unit) (facts := facts) (numN := numN) (numD := numD) (oldFacts := oldFacts) (oldN := oldN) (oldD := oldD) (point := point) (judged := judged) (fault := fault) (faultPoint := faultPoint) (toldFacts := toldFacts) (toldN := toldN) (toldD := toldD) (outN := outN) (outD := outD) (pointN := pointN) (pointD := pointD) (gone := gone) (now := now) (leastN := leastN) (leastD := leastD) (greatestN := greatestN) (greatestD := greatestD) (events := events) hp wS wP
  obtain ⟨-, -, -, -, wA, -, -, -, -, -, -, -, -, -, -, -, -, -, -, -, wF⟩ := id hw
  have wN0 : WN firstN firstD := fun n => by have := wF n; omega
  have wT2 : ∀ s, 0 ≤ (mix steps stepAction triedAction) s ∧ (mix steps stepAction triedAction) s < 12 := fun s => by
    unfold mix
    by_cases h : s < steps
    · rw [if_pos h]; exact hB s
    · rw [if_neg h]; exact wT s
  have hact2 : ∀ s, 0 ≤ s → s < steps → 0 ≤ (mix steps stepAction triedAction) s ∧ (mix steps stepAction triedAction) s < actions := fun s z1 z2 => by unfold mix; rw [if_pos z2]; exact hA s z1 z2
  have hlen : ∀ s, 0 ≤ s → s < steps → 0 < lengthN s ∧ lengthN s ≤ 100000000000 ∧ 0 < lengthD s ∧ lengthD s ≤ 1000000 := fun s z1 z2 => by have := wP s z1 z2; omega
  have wQ2 : ∀ p, 0 ≤ p → p < 2 * steps → 0 ≤ (mix (2 * steps) (ptN startN startD lengthN lengthD) pointN) p ∧ (mix (2 * steps) (ptN startN startD lengthN lengthD) pointN) p ≤ 100000000000 ∧ 0 < (mix (2 * steps) (ptD startN startD lengthN lengthD) pointD) p ∧ (mix (2 * steps) (ptD startN startD lengthN lengthD) pointD) p ≤ 1000000 := fun p z1 z2 => by unfold mix; rw [if_pos z2, if_pos z2]; exact WPL_pt wP z1 z2
  obtain ⟨why, pt, F1, N1, D1, G1, H1, F2, N2, D2, x1, y1, hJ, wN1, hwb, ht⟩ := judge_loop (d := d) (n0 := (MR pre code amountN amountD momentN momentD epsilonN epsilonD firstFacts firstN firstD wishes wants wantN wantD actions needs needTime needOf needHow needN needD changes changeTime changeOf changeHow changeN changeD lastOf lastN lastD steps stepAction startN startD lengthN lengthD rows row tried triedAction triedRows triedRow times unit facts numN numD oldFacts oldN oldD point judged fault faultPoint toldFacts toldN toldD outN outD pointN pointD gone now leastN leastD greatestN greatestD events post).length) (pre := pre) (post := post) (code := 0) (amountN := amountN) (amountD := amountD) (momentN := momentN) (momentD := momentD) (epsilonN := epsilonN) (epsilonD := epsilonD) (firstFacts := firstFacts) (firstN := firstN) (firstD := firstD) (wishes := wishes) (wants := wants) (wantN := wantN) (wantD := wantD) (actions := actions) (needs := needs) (needTime := needTime) (needOf := needOf) (needHow := needHow) (needN := needN) (needD := needD) (changes := changes) (changeTime := changeTime) (changeOf := changeOf) (changeHow := changeHow) (changeN := changeN) (changeD := changeD) (lastOf := lastOf) (lastN := lastN) (lastD := lastD) (steps := steps) (stepAction := stepAction) (startN := startN) (startD := startD) (lengthN := lengthN) (lengthD := lengthD) (rows := rows) (row := row) (tried := steps) (triedAction := (mix steps stepAction triedAction)) (triedRows := rows) (triedRow := (mix rows row triedRow)) (times := times) (unit := unit) (judged := judged) (fault := fault) (faultPoint := faultPoint) (toldFacts := toldFacts) (toldN := toldN) (toldD := toldD) (pointN := (mix (2 * steps) (ptN startN startD lengthN lengthD) pointN)) (pointD := (mix (2 * steps) (ptD startN startD lengthN lengthD) pointD)) (leastN := leastN) (leastD := leastD) (greatestN := greatestN) (greatestD := greatestD) (events := events) hp hw wT2 wS wQ2 hact2 hlen 24 firstFacts firstN firstD (fun _ => False) now point xt yt oldFacts oldN oldD (Nat.le_trans (cntP_b _ _) (by omega)) wN0
  by_cases h0 : why = 0
  · subst h0
    by_cases hgo : goal wishes wants wantN wantD F1 N1 D1
    · skip
      refine ⟨0, pt, F1, N1, D1, G1, H1, F2, N2, D2, x1, y1, 0, -1, hJ, wN1, Or.inr (Or.inl ⟨rfl, rfl, rfl, hgo⟩), ?_⟩
      refine Cg.of (Nat.le_of_ble_eq_true rfl) ?_
      change Rg _ _ _ _ 0 [(0, .ref 168)] [] _ _ _
      refine Rg.step 1 F_Mo_judge_0 rfl (fun _ => rfl) ?_
      refine Rg.step 2 F_Mo_judge_1 rfl (fun _ => rfl) ?_
      refine Rg.put 5 F_Mo_judge_2 rfl rF_26_178 (gM hp) (by decide) (Nat.le_of_ble_eq_true rfl) (Or.inl rfl) rfl (sM_code hp) ?_
      refine Rg.step 6 F_Mo_judge_5 rfl (fun _ => rfl) ?_
      refine Rg.call 9 F_Mo_judge_6 rfl (one_V rM_26_327 (by decide) (by simp) rfl rfl (gM hp) rfl) (Nat.le_of_ble_eq_true rfl) (c_Mo_takePlan hp wS wR) ?_
      refine Rg.step 10 F_Mo_judge_9 rfl (fun _ => rfl) ?_
      refine Rg.call 13 F_Mo_judge_10 rfl (one_V rM_26_330 (by decide) (by simp) rfl rfl (gM hp) rfl) (Nat.le_of_ble_eq_true rfl) htt ?_
      refine Rg.step 14 F_Mo_judge_13 rfl (fun _ => rfl) ?_
      refine Rg.call 17 F_Mo_judge_14 rfl (one_V rM_26_333 (by decide) (by simp) rfl rfl (gM hp) rfl) (Nat.le_of_ble_eq_true rfl) (c_Mo_beginState hp) ?_
      refine Rg.step 18 F_Mo_judge_17 rfl (fun _ => rfl) ?_
      refine Rg.step 19 F_Mo_judge_18 rfl (fun _ => rfl) ?_
      refine Rg.frM (kR_gone (mix0_Z (fun _ => False) gone)) (Rg.weak (judge_gone hp ?_ 24 0 (by omega) (by omega)) (by simp [lput1, lput2, Value.category, fi0, fi1, fi2, fi3] <;> first | rfl | exact ⟨rfl, rfl⟩) (by simp [lput1, lput2, Value.category, fi0, fi1, fi2, fi3] <;> first | rfl | exact ⟨rfl, rfl⟩))
      refine Rg.frM (kR_gone (mix_Z (fun _ => False) gone)) ?_
      refine Rg.step 39 F_Mo_judge_38 rfl (fun _ => rfl) ?_
      refine Rg.step 40 F_Mo_judge_39 rfl (fun _ => rfl) ?_
      refine Rg.weak (ht _ _ ?_) (by simp [lput1, lput2, Value.category, fi0, fi1, fi2, fi3] <;> first | rfl | exact ⟨rfl, rfl⟩) (by simp [lput1, lput2, Value.category, fi0, fi1, fi2, fi3] <;> first | rfl | exact ⟨rfl, rfl⟩)
      refine Rg.step 60 F_Mo_judge_59 rfl (fun _ => rfl) ?_
      refine Rg.ifneI 73 63 F_Mo_judge_60 rfl rfl (by omega) (fun h60 => by omega) (fun _ => ?_)
      refine Rg.step 64 F_Mo_judge_63 rfl (fun _ => rfl) ?_
      refine Rg.call 67 F_Mo_judge_64 rfl (one_V rM_26_344 (by decide) (by simp) rfl rfl (gM hp) rfl) (Nat.le_of_ble_eq_true rfl) (Cg.any (c_Mo_isGoal hp hw wN1)) ?_
      refine Rg.ifneP 73 70 F_Mo_judge_67 rfl rfl (fun _ => ?_) (fun h67 => absurd hgo h67)
      refine Rg.step 74 F_Mo_judge_73 rfl (fun _ => rfl) ?_
      refine Rg.step 75 F_Mo_judge_74 rfl (fun _ => rfl) ?_
      refine Rg.call 78 F_Mo_judge_75 rfl (one_V rM_26_347 (by decide) (by simp) rfl rfl (gM hp) rfl) (Nat.le_of_ble_eq_true rfl) (c_Mo_tell0 hp (by omega) (by omega)) ?_
      refine Rg.step 79 F_Mo_judge_78 rfl (fun _ => rfl) ?_
      exact Rg.retI F_Mo_judge_79 rfl rfl rfl
    · skip
      refine ⟨0, pt, F1, N1, D1, G1, H1, F2, N2, D2, x1, y1, 6, -1, hJ, wN1, Or.inr (Or.inr ⟨rfl, rfl, rfl, hgo⟩), ?_⟩
      refine Cg.of (Nat.le_of_ble_eq_true rfl) ?_
      change Rg _ _ _ _ 0 [(0, .ref 168)] [] _ _ _
      refine Rg.step 1 F_Mo_judge_0 rfl (fun _ => rfl) ?_
      refine Rg.step 2 F_Mo_judge_1 rfl (fun _ => rfl) ?_
      refine Rg.put 5 F_Mo_judge_2 rfl rF_26_178 (gM hp) (by decide) (Nat.le_of_ble_eq_true rfl) (Or.inl rfl) rfl (sM_code hp) ?_
      refine Rg.step 6 F_Mo_judge_5 rfl (fun _ => rfl) ?_
      refine Rg.call 9 F_Mo_judge_6 rfl (one_V rM_26_327 (by decide) (by simp) rfl rfl (gM hp) rfl) (Nat.le_of_ble_eq_true rfl) (c_Mo_takePlan hp wS wR) ?_
      refine Rg.step 10 F_Mo_judge_9 rfl (fun _ => rfl) ?_
      refine Rg.call 13 F_Mo_judge_10 rfl (one_V rM_26_330 (by decide) (by simp) rfl rfl (gM hp) rfl) (Nat.le_of_ble_eq_true rfl) htt ?_
      refine Rg.step 14 F_Mo_judge_13 rfl (fun _ => rfl) ?_
      refine Rg.call 17 F_Mo_judge_14 rfl (one_V rM_26_333 (by decide) (by simp) rfl rfl (gM hp) rfl) (Nat.le_of_ble_eq_true rfl) (c_Mo_beginState hp) ?_
      refine Rg.step 18 F_Mo_judge_17 rfl (fun _ => rfl) ?_
      refine Rg.step 19 F_Mo_judge_18 rfl (fun _ => rfl) ?_
      refine Rg.frM (kR_gone (mix0_Z (fun _ => False) gone)) (Rg.weak (judge_gone hp ?_ 24 0 (by omega) (by omega)) (by simp [lput1, lput2, Value.category, fi0, fi1, fi2, fi3] <;> first | rfl | exact ⟨rfl, rfl⟩) (by simp [lput1, lput2, Value.category, fi0, fi1, fi2, fi3] <;> first | rfl | exact ⟨rfl, rfl⟩))
      refine Rg.frM (kR_gone (mix_Z (fun _ => False) gone)) ?_
      refine Rg.step 39 F_Mo_judge_38 rfl (fun _ => rfl) ?_
      refine Rg.step 40 F_Mo_judge_39 rfl (fun _ => rfl) ?_
      refine Rg.weak (ht _ _ ?_) (by simp [lput1, lput2, Value.category, fi0, fi1, fi2, fi3] <;> first | rfl | exact ⟨rfl, rfl⟩) (by simp [lput1, lput2, Value.category, fi0, fi1, fi2, fi3] <;> first | rfl | exact ⟨rfl, rfl⟩)
      refine Rg.step 60 F_Mo_judge_59 rfl (fun _ => rfl) ?_
      refine Rg.ifneI 73 63 F_Mo_judge_60 rfl rfl (by omega) (fun h60 => by omega) (fun _ => ?_)
      refine Rg.step 64 F_Mo_judge_63 rfl (fun _ => rfl) ?_
      refine Rg.call 67 F_Mo_judge_64 rfl (one_V rM_26_344 (by decide) (by simp) rfl rfl (gM hp) rfl) (Nat.le_of_ble_eq_true rfl) (Cg.any (c_Mo_isGoal hp hw wN1)) ?_
      refine Rg.ifneP 73 70 F_Mo_judge_67 rfl rfl (fun h67 => absurd h67 hgo) (fun _ => ?_)
      refine Rg.bip 72 F_Mo_judge_70 rfl rfl ?_
      refine Rg.step 73 F_Mo_judge_72 rfl (fun _ => rfl) ?_
      refine Rg.step 74 F_Mo_judge_73 rfl (fun _ => rfl) ?_
      refine Rg.step 75 F_Mo_judge_74 rfl (fun _ => rfl) ?_
      refine Rg.call 78 F_Mo_judge_75 rfl (one_V rM_26_347 (by decide) (by simp) rfl rfl (gM hp) rfl) (Nat.le_of_ble_eq_true rfl) (c_Mo_tell0 hp (by omega) (by omega)) ?_
      refine Rg.step 79 F_Mo_judge_78 rfl (fun _ => rfl) ?_
      exact Rg.retI F_Mo_judge_79 rfl rfl rfl
  · skip
    refine ⟨why, pt, F1, N1, D1, G1, H1, F2, N2, D2, x1, y1, why, pt, hJ, wN1, Or.inl ⟨by omega, by omega, rfl, rfl⟩, ?_⟩
    refine Cg.of (Nat.le_of_ble_eq_true rfl) ?_
    change Rg _ _ _ _ 0 [(0, .ref 168)] [] _ _ _
    refine Rg.step 1 F_Mo_judge_0 rfl (fun _ => rfl) ?_
    refine Rg.step 2 F_Mo_judge_1 rfl (fun _ => rfl) ?_
    refine Rg.put 5 F_Mo_judge_2 rfl rF_26_178 (gM hp) (by decide) (Nat.le_of_ble_eq_true rfl) (Or.inl rfl) rfl (sM_code hp) ?_
    refine Rg.step 6 F_Mo_judge_5 rfl (fun _ => rfl) ?_
    refine Rg.call 9 F_Mo_judge_6 rfl (one_V rM_26_327 (by decide) (by simp) rfl rfl (gM hp) rfl) (Nat.le_of_ble_eq_true rfl) (c_Mo_takePlan hp wS wR) ?_
    refine Rg.step 10 F_Mo_judge_9 rfl (fun _ => rfl) ?_
    refine Rg.call 13 F_Mo_judge_10 rfl (one_V rM_26_330 (by decide) (by simp) rfl rfl (gM hp) rfl) (Nat.le_of_ble_eq_true rfl) htt ?_
    refine Rg.step 14 F_Mo_judge_13 rfl (fun _ => rfl) ?_
    refine Rg.call 17 F_Mo_judge_14 rfl (one_V rM_26_333 (by decide) (by simp) rfl rfl (gM hp) rfl) (Nat.le_of_ble_eq_true rfl) (c_Mo_beginState hp) ?_
    refine Rg.step 18 F_Mo_judge_17 rfl (fun _ => rfl) ?_
    refine Rg.step 19 F_Mo_judge_18 rfl (fun _ => rfl) ?_
    refine Rg.frM (kR_gone (mix0_Z (fun _ => False) gone)) (Rg.weak (judge_gone hp ?_ 24 0 (by omega) (by omega)) (by simp [lput1, lput2, Value.category, fi0, fi1, fi2, fi3] <;> first | rfl | exact ⟨rfl, rfl⟩) (by simp [lput1, lput2, Value.category, fi0, fi1, fi2, fi3] <;> first | rfl | exact ⟨rfl, rfl⟩))
    refine Rg.frM (kR_gone (mix_Z (fun _ => False) gone)) ?_
    refine Rg.step 39 F_Mo_judge_38 rfl (fun _ => rfl) ?_
    refine Rg.step 40 F_Mo_judge_39 rfl (fun _ => rfl) ?_
    refine Rg.weak (ht _ _ ?_) (by simp [lput1, lput2, Value.category, fi0, fi1, fi2, fi3] <;> first | rfl | exact ⟨rfl, rfl⟩) (by simp [lput1, lput2, Value.category, fi0, fi1, fi2, fi3] <;> first | rfl | exact ⟨rfl, rfl⟩)
    refine Rg.step 60 F_Mo_judge_59 rfl (fun _ => rfl) ?_
    refine Rg.ifneI 73 63 F_Mo_judge_60 rfl rfl (by omega) (fun _ => ?_) (fun h60 => by omega)
    refine Rg.step 74 F_Mo_judge_73 rfl (fun _ => rfl) ?_
    refine Rg.step 75 F_Mo_judge_74 rfl (fun _ => rfl) ?_
    refine Rg.call 78 F_Mo_judge_75 rfl (one_V rM_26_347 (by decide) (by simp) rfl rfl (gM hp) rfl) (Nat.le_of_ble_eq_true rfl) (c_Mo_tell1 hp (by omega)) ?_
    refine Rg.step 79 F_Mo_judge_78 rfl (fun _ => rfl) ?_
    exact Rg.retI F_Mo_judge_79 rfl rfl rfl
end R52
