/-! The reference: what points see and change. -/
def tmo (p : Int) : Int := if p % 2 = 0 then 0 else 2
theorem tmo_e {p : Int} (h : p % 2 = 0) : tmo p = 0 := if_pos h
theorem tmo_o {p : Int} (h : ¬ p % 2 = 0) : tmo p = 2 := if_neg h
theorem tmo_b (p : Int) : (tmo p = 0 ∧ p % 2 = 0) ∨ (tmo p = 2 ∧ ¬ p % 2 = 0) := by
  unfold tmo
  split
  · exact Or.inl ⟨rfl, by assumption⟩
  · exact Or.inr ⟨rfl, by assumption⟩
noncomputable def hch (changes changeTime changeHow changeOf : Int → Int) (a t : Int) (F : Prop) (of : Int) : Int := if chg changes changeTime changeHow changeOf a t F of < 0 then -1 else changeHow (chg changes changeTime changeHow changeOf a t F of)
def looks (needs needTime needHow needOf lastOf changes changeTime changeHow changeOf : Int → Int) (a t : Int) (F : Prop) (of : Int) : Prop := (∃ k, 8 * a ≤ k ∧ k < 8 * a + needs a ∧ needTime k = t ∧ (9 < needHow k ↔ F) ∧ needOf k = of) ∨ (¬ F ∧ ((t = 0 ∧ (lastOf (2 * a) = of ∨ lastOf (2 * a + 1) = of)) ∨ hch changes changeTime changeHow changeOf a t False of = 3))
def clash (needs needTime needHow needOf lastOf changes changeTime changeHow changeOf : Int → Int) (a t b u : Int) (F : Prop) (of : Int) : Prop := (0 ≤ hch changes changeTime changeHow changeOf a t F of ∧ looks needs needTime needHow needOf lastOf changes changeTime changeHow changeOf b u F of) ∨ (0 ≤ hch changes changeTime changeHow changeOf b u F of ∧ looks needs needTime needHow needOf lastOf changes changeTime changeHow changeOf a t F of) ∨ (0 ≤ hch changes changeTime changeHow changeOf a t F of ∧ 0 ≤ hch changes changeTime changeHow changeOf b u F of ∧ ((F ∧ ¬ hch changes changeTime changeHow changeOf a t F of = hch changes changeTime changeHow changeOf b u F of) ∨ (¬ F ∧ ((¬ hch changes changeTime changeHow changeOf a t F of = 1 ∧ ¬ hch changes changeTime changeHow changeOf a t F of = 2) ∨ (¬ hch changes changeTime changeHow changeOf b u F of = 1 ∧ ¬ hch changes changeTime changeHow changeOf b u F of = 2)))))
def interf (needs needTime needHow needOf lastOf changes changeTime changeHow changeOf : Int → Int) (a t b u : Int) : Prop := (∃ f, 0 ≤ f ∧ f < 16 ∧ clash needs needTime needHow needOf lastOf changes changeTime changeHow changeOf a t b u True f) ∨ (∃ n, 0 ≤ n ∧ n < 8 ∧ clash needs needTime needHow needOf lastOf changes changeTime changeHow changeOf a t b u False n)
theorem ex_succ {C : Int → Prop} {k : Int} (h : 0 ≤ k) : (∃ f, 0 ≤ f ∧ f < k + 1 ∧ C f) ↔ (∃ f, 0 ≤ f ∧ f < k ∧ C f) ∨ C k := by
  constructor
  · rintro ⟨f, h1, h2, h3⟩
    by_cases hk : f = k
    · exact Or.inr (hk ▸ h3)
    · exact Or.inl ⟨f, h1, by omega, h3⟩
  · rintro (⟨f, h1, h2, h3⟩ | h3)
    · exact ⟨f, h1, by omega, h3⟩
    · exact ⟨k, h, by omega, h3⟩
theorem ex_zero {C : Int → Prop} : ¬ (∃ f, 0 ≤ f ∧ f < (0 : Int) ∧ C f) := fun ⟨f, h1, h2, _⟩ => by omega
theorem al_succ {C : Int → Prop} {lo k : Int} (h : lo ≤ k) : (∀ f, lo ≤ f → f < k + 1 → C f) ↔ (∀ f, lo ≤ f → f < k → C f) ∧ C k := by
  constructor
  · exact fun z => ⟨fun f h1 h2 => z f h1 (by omega), z k h (by omega)⟩
  · rintro ⟨z1, z2⟩ f h1 h2
    by_cases hk : f = k
    · exact hk ▸ z2
    · exact z1 f h1 (by omega)
theorem al_zero {C : Int → Prop} {lo : Int} : ∀ f, lo ≤ f → f < lo → C f := fun f h1 h2 => by omega
theorem mul_bd {a b A B : Int} (ha : -A ≤ a ∧ a ≤ A) (hb : -B ≤ b ∧ b ≤ B) : -(A * B) ≤ a * b ∧ a * b ≤ A * B := by
  have h1 : (A - a) * (B - b) ≥ 0 := Int.mul_nonneg (by omega) (by omega)
  have h2 : (A + a) * (B + b) ≥ 0 := Int.mul_nonneg (by omega) (by omega)
  have h3 : (A - a) * (B + b) ≥ 0 := Int.mul_nonneg (by omega) (by omega)
  have h4 : (A + a) * (B - b) ≥ 0 := Int.mul_nonneg (by omega) (by omega)
  simp only [Int.mul_add, Int.add_mul, Int.mul_sub, Int.sub_mul] at h1 h2 h3 h4
  have e1 : a * B = B * a := Int.mul_comm _ _
  have e2 : b * A = A * b := Int.mul_comm _ _
  omega
theorem mul_ps {a b A B : Int} (ha : 0 < a ∧ a ≤ A) (hb : 0 < b ∧ b ≤ B) : 0 < a * b ∧ a * b ≤ A * B := ⟨Int.mul_pos ha.1 hb.1, Int.mul_le_mul ha.2 hb.2 (by omega) (by omega)⟩
section R45
variable {pre post mem : AM}
variable {code amountN amountD momentN momentD epsilonN epsilonD actions steps rows tried triedRows unit point judged fault faultPoint outN outD : Int}
variable {firstN firstD wishes wants wantN wantD needs needTime needOf needHow needN needD changes changeTime changeOf changeHow changeN changeD lastOf lastN lastD stepAction startN startD lengthN lengthD row triedAction triedRow times numN numD oldN oldD toldN toldD pointN pointD leastN leastD greatestN greatestD events : Int → Int}
variable {firstFacts facts oldFacts toldFacts gone now : Int → Prop}
theorem c_Mo_timeOf {d : Nat}  {p : Int} (b0 : 0 ≤ p ∧ p < 2147483648) : Cg true d m_Mo_timeOf [.int (iI p)] mem (.inl (some (.int (iI (tmo p))))) mem := by
  refine Cg.of (Nat.le_of_ble_eq_true rfl) ?_
  change Rg _ _ _ _ 0 [(0, .int (iI p))] [] _ _ _
  refine Rg.step 1 F_Mo_timeOf_0 rfl (fun _ => rfl) ?_
  refine Rg.step 2 F_Mo_timeOf_1 rfl (fun _ => rfl) ?_
  refine Rg.remIp 3 F_Mo_timeOf_2 rfl (by omega) (by omega) ?_
  refine Rg.ifneI 10 6 F_Mo_timeOf_3 rfl rfl (by omega) (fun h3 => ?_) (fun h3 => ?_)
  · refine Rg.step 11 F_Mo_timeOf_10 rfl (fun _ => rfl) ?_
    exact Rg.retI F_Mo_timeOf_11 rfl (tmo_o h3).symm rfl
  · refine Rg.step 7 F_Mo_timeOf_6 rfl (fun _ => rfl) ?_
    refine Rg.step 11 F_Mo_timeOf_7 rfl (fun _ => rfl) ?_
    exact Rg.retI F_Mo_timeOf_11 rfl (tmo_e h3).symm rfl
theorem c_Mo_howChanged {d : Nat}  (hp : pre.length = 168) (hw : WT epsilonN epsilonD wishes wants wantN wantD actions needs needTime needOf needHow needN needD changes changeTime changeOf changeHow changeN changeD lastOf lastN lastD firstN firstD) (wT : ∀ s, 0 ≤ triedAction s ∧ triedAction s < 12) {p of : Int} {F : Prop} (h1 : 0 ≤ p ∧ p < 24) (h2 : 0 ≤ of ∧ of ≤ 15) : Cg true (d + 1) m_Mo_howChanged [.ref 168, .int (iI p), .int (bP F), .int (iI of)] (MR pre code amountN amountD momentN momentD epsilonN epsilonD firstFacts firstN firstD wishes wants wantN wantD actions needs needTime needOf needHow needN needD changes changeTime changeOf changeHow changeN changeD lastOf lastN lastD steps stepAction startN startD lengthN lengthD rows row tried triedAction triedRows triedRow times unit facts numN numD oldFacts oldN oldD point judged fault faultPoint toldFacts toldN toldD outN outD pointN pointD gone now leastN leastD greatestN greatestD events post) (.inl (some (.int (iI (hch changes changeTime changeHow changeOf (triedAction (p / 2)) (tmo p) F of))))) (MR pre code amountN amountD momentN momentD epsilonN epsilonD firstFacts firstN firstD wishes wants wantN wantD actions needs needTime needOf needHow needN needD changes changeTime changeOf changeHow changeN changeD lastOf lastN lastD steps stepAction startN startD lengthN lengthD rows row tried triedAction triedRows triedRow times unit facts numN numD oldFacts oldN oldD point judged fault faultPoint toldFacts toldN toldD outN outD pointN pointD gone now leastN leastD greatestN greatestD events post) := by
  obtain ⟨-, -, -, -, -, -, -, -, -, -, -, wc, wcT, wcO, wcH, -, -, -, -, -, -⟩ := id hw
  have c0 := wT (p / 2)
  have c1 := wc (triedAction (p / 2))
  have c2 := tmo_b p
  have c9 := fnd_bd (A := fun k => changeTime k = tmo p ∧ (9 < changeHow k ↔ F) ∧ changeOf k = of) (changes (triedAction (p / 2))).toNat (6 * triedAction (p / 2))
  rw [show fnd (fun k => changeTime k = tmo p ∧ (9 < changeHow k ↔ F) ∧ changeOf k = of) (changes (triedAction (p / 2))).toNat (6 * triedAction (p / 2)) = chg changes changeTime changeHow changeOf (triedAction (p / 2)) (tmo p) F of from rfl] at c9
  refine Cg.of (Nat.le_of_ble_eq_true rfl) ?_
  change Rg _ _ _ _ 0 [(0, .ref 168), (1, .int (iI p)), (2, .int (bP F)), (3, .int (iI of))] [] _ _ _
  refine Rg.step 1 F_Mo_howChanged_0 rfl (fun _ => rfl) ?_
  refine Rg.step 2 F_Mo_howChanged_1 rfl (fun _ => rfl) ?_
  refine Rg.getf 5 F_Mo_howChanged_2 rfl rF_26_111 (gM hp) rfl ?_
  refine Rg.step 6 F_Mo_howChanged_5 rfl (fun _ => rfl) ?_
  refine Rg.step 7 F_Mo_howChanged_6 rfl (fun _ => rfl) ?_
  refine Rg.divIp 8 F_Mo_howChanged_7 rfl (by omega) (by omega) ?_
  refine Rg.ild 9 F_Mo_howChanged_8 rfl (gR_triedAction hp) (by omega) (by decide) ?_
  refine Rg.step 10 F_Mo_howChanged_9 rfl (fun _ => rfl) ?_
  refine Rg.call 13 F_Mo_howChanged_10 rfl (one_S (by decide +kernel) rM_26_248 (by decide) (by simp) rfl rfl) (Nat.le_of_ble_eq_true rfl) (Cg.any (c_Mo_timeOf (by omega))) ?_
  refine Rg.step 14 F_Mo_howChanged_13 rfl (fun _ => rfl) ?_
  refine Rg.step 15 F_Mo_howChanged_14 rfl (fun _ => rfl) ?_
  refine Rg.call 18 F_Mo_howChanged_15 rfl (one_V rM_26_235 (by decide) (by simp) rfl rfl (gM hp) rfl) (Nat.le_of_ble_eq_true rfl) (Cg.any (c_Mo_changing hp (by omega) wc wcT wcO wcH (by omega) (by omega))) ?_
  refine Rg.step 20 F_Mo_howChanged_18 rfl (fun _ => rfl) ?_
  refine Rg.step 22 F_Mo_howChanged_20 rfl (fun _ => rfl) ?_
  refine Rg.ifgeI 29 25 F_Mo_howChanged_22 rfl rfl (by omega) (fun h22 => ?_) (fun h22 => ?_)
  · refine Rg.step 30 F_Mo_howChanged_29 rfl (fun _ => rfl) ?_
    refine Rg.getf 33 F_Mo_howChanged_30 rfl rF_26_75 (gM hp) rfl ?_
    refine Rg.step 35 F_Mo_howChanged_33 rfl (fun _ => rfl) ?_
    refine Rg.ild 36 F_Mo_howChanged_35 rfl (gR_changeHow hp) (by omega) (by decide) ?_
    exact Rg.retI F_Mo_howChanged_36 rfl (by unfold hch; rw [if_neg (by omega)]) rfl
  · refine Rg.step 26 F_Mo_howChanged_25 rfl (fun _ => rfl) ?_
    refine Rg.step 36 F_Mo_howChanged_26 rfl (fun _ => rfl) ?_
    exact Rg.retI F_Mo_howChanged_36 rfl (by unfold hch; rw [if_pos (by omega)]) rfl
theorem looks_loop {d n0 : Nat} (hp : pre.length = 168) (hw : WT epsilonN epsilonD wishes wants wantN wantD actions needs needTime needOf needHow needN needD changes changeTime changeOf changeHow changeN changeD lastOf lastN lastD firstN firstD) (wT : ∀ s, 0 ≤ triedAction s ∧ triedAction s < 12) {p of : Int} {F : Prop} (h1 : 0 ≤ p ∧ p < 24) (h2 : 0 ≤ of ∧ of ≤ 15) : ∀ (n : Nat) (k : Int), k + n = 8 * triedAction (p / 2) + needs (triedAction (p / 2)) → 8 * triedAction (p / 2) ≤ k → (∀ j, 8 * triedAction (p / 2) ≤ j → j < k → ¬ (needTime j = tmo p ∧ (9 < needHow j ↔ F) ∧ needOf j = of)) → Rg true (d + 2) m_Mo_looksAt n0 17 [(5, .int (iI k)), (4, .int (iI (triedAction (p / 2)))), (0, .ref 168), (1, .int (iI p)), (2, .int (bP F)), (3, .int (iI of))] [] (MR pre code amountN amountD momentN momentD epsilonN epsilonD firstFacts firstN firstD wishes wants wantN wantD actions needs needTime needOf needHow needN needD changes changeTime changeOf changeHow changeN changeD lastOf lastN lastD steps stepAction startN startD lengthN lengthD rows row tried triedAction triedRows triedRow times unit facts numN numD oldFacts oldN oldD point judged fault faultPoint toldFacts toldN toldD outN outD pointN pointD gone now leastN leastD greatestN greatestD events post) (.inl (some (.int (bP (looks needs needTime needHow needOf lastOf changes changeTime changeHow changeOf (triedAction (p / 2)) (tmo p) F of))))) (MR pre code amountN amountD momentN momentD epsilonN epsilonD firstFacts firstN firstD wishes wants wantN wantD actions needs needTime needOf needHow needN needD changes changeTime changeOf changeHow changeN changeD lastOf lastN lastD steps stepAction startN startD lengthN lengthD rows row tried triedAction triedRows triedRow times unit facts numN numD oldFacts oldN oldD point judged fault faultPoint toldFacts toldN toldD outN outD pointN pointD gone now leastN leastD greatestN greatestD events post) := by
  intro n
  obtain ⟨-, -, -, -, -, wn, wnT, wnO, wnH, -, -, -, -, -, wcH, -, -, wL, -, -, -⟩ := id hw
  have c0 := wT (p / 2)
  have c1 := wn (triedAction (p / 2))
  have c2 := tmo_b p
  have l1 := wL (2 * triedAction (p / 2))
  have l2 := wL (2 * triedAction (p / 2) + 1)
  have hb : -1 ≤ hch changes changeTime changeHow changeOf (triedAction (p / 2)) (tmo p) False of ∧ hch changes changeTime changeHow changeOf (triedAction (p / 2)) (tmo p) False of ≤ 11 := by
    have z := wcH (chg changes changeTime changeHow changeOf (triedAction (p / 2)) (tmo p) False of)
    unfold hch
    split <;> omega
  induction n with
  | zero =>
    intro k hk hk2 hn
    refine Rg.step 19 F_Mo_looksAt_17 rfl (fun _ => rfl) ?_
    refine Rg.bip 21 F_Mo_looksAt_19 rfl rfl ?_
    refine Rg.step 23 F_Mo_looksAt_21 rfl (fun _ => rfl) ?_
    refine Rg.mulI 24 F_Mo_looksAt_23 rfl ?_
    refine Rg.step 25 F_Mo_looksAt_24 rfl (fun _ => rfl) ?_
    refine Rg.getf 28 F_Mo_looksAt_25 rfl rF_26_48 (gM hp) rfl ?_
    refine Rg.step 30 F_Mo_looksAt_28 rfl (fun _ => rfl) ?_
    refine Rg.ild 31 F_Mo_looksAt_30 rfl (gR_needs hp) (by omega) (by decide) ?_
    refine Rg.addI 32 F_Mo_looksAt_31 rfl ?_
    refine Rg.icgeI 89 35 F_Mo_looksAt_32 rfl rfl (by omega) (by omega) (fun _ => ?_) (fun h32 => by omega)
    refine Rg.step 90 F_Mo_looksAt_89 rfl (fun _ => rfl) ?_
    refine Rg.ifeqP 95 93 F_Mo_looksAt_90 rfl rfl (fun h90 => ?_) (fun h90 => ?_)
    · refine Rg.step 96 F_Mo_looksAt_95 rfl (fun _ => rfl) ?_
      refine Rg.step 97 F_Mo_looksAt_96 rfl (fun _ => rfl) ?_
      refine Rg.remIp 98 F_Mo_looksAt_97 rfl (by omega) (by omega) ?_
      refine Rg.ifneI 131 101 F_Mo_looksAt_98 rfl rfl (by omega) (fun h98 => ?_) (fun h98 => ?_)
      · refine Rg.step 132 F_Mo_looksAt_131 rfl (fun _ => rfl) ?_
        refine Rg.step 133 F_Mo_looksAt_132 rfl (fun _ => rfl) ?_
        refine Rg.cP0 (B := False) 134 F_Mo_looksAt_133 rfl (fun z => z) ?_
        refine Rg.step 135 F_Mo_looksAt_134 rfl (fun _ => rfl) ?_
        refine Rg.call 138 F_Mo_looksAt_135 rfl (one_V rM_26_252 (by decide) (by simp) rfl rfl (gM hp) rfl) (Nat.le_of_ble_eq_true rfl) (Cg.any (c_Mo_howChanged hp hw wT (by omega) (by omega))) ?_
        refine Rg.step 139 F_Mo_looksAt_138 rfl (fun _ => rfl) ?_
        refine Rg.icneI 146 142 F_Mo_looksAt_139 rfl rfl (by omega) (by omega) (fun h139 => ?_) (fun h139 => ?_)
        · refine Rg.step 147 F_Mo_looksAt_146 rfl (fun _ => rfl) ?_
          exact Rg.ret0 F_Mo_looksAt_147 rfl (fun z => z.elim (fun ⟨j, z1, z2, z3⟩ => hn j z1 (by omega) z3) (fun y => y.2.elim (fun x => by omega) (fun x => h139 x))) rfl
        · refine Rg.step 143 F_Mo_looksAt_142 rfl (fun _ => rfl) ?_
          refine Rg.step 147 F_Mo_looksAt_143 rfl (fun _ => rfl) ?_
          exact Rg.ret1 F_Mo_looksAt_147 rfl (Or.inr ⟨h90, Or.inr h139⟩) rfl
      · refine Rg.step 102 F_Mo_looksAt_101 rfl (fun _ => rfl) ?_
        refine Rg.getf 105 F_Mo_looksAt_102 rfl rF_26_84 (gM hp) rfl ?_
        refine Rg.step 106 F_Mo_looksAt_105 rfl (fun _ => rfl) ?_
        refine Rg.step 108 F_Mo_looksAt_106 rfl (fun _ => rfl) ?_
        refine Rg.mulI 109 F_Mo_looksAt_108 rfl ?_
        refine Rg.ild 110 F_Mo_looksAt_109 rfl (gR_lastOf hp) (by omega) (by decide) ?_
        refine Rg.step 111 F_Mo_looksAt_110 rfl (fun _ => rfl) ?_
        refine Rg.iceqI 129 114 F_Mo_looksAt_111 rfl rfl (by omega) (by omega) (fun h111 => ?_) (fun h111 => ?_)
        · refine Rg.step 130 F_Mo_looksAt_129 rfl (fun _ => rfl) ?_
          exact Rg.ret1 F_Mo_looksAt_130 rfl (Or.inr ⟨h90, Or.inl ⟨by omega, by omega⟩⟩) rfl
        · refine Rg.step 115 F_Mo_looksAt_114 rfl (fun _ => rfl) ?_
          refine Rg.getf 118 F_Mo_looksAt_115 rfl rF_26_84 (gM hp) rfl ?_
          refine Rg.step 119 F_Mo_looksAt_118 rfl (fun _ => rfl) ?_
          refine Rg.step 121 F_Mo_looksAt_119 rfl (fun _ => rfl) ?_
          refine Rg.mulI 122 F_Mo_looksAt_121 rfl ?_
          refine Rg.step 123 F_Mo_looksAt_122 rfl (fun _ => rfl) ?_
          refine Rg.addI 124 F_Mo_looksAt_123 rfl ?_
          refine Rg.ild 125 F_Mo_looksAt_124 rfl (gR_lastOf hp) (by omega) (by decide) ?_
          refine Rg.step 126 F_Mo_looksAt_125 rfl (fun _ => rfl) ?_
          refine Rg.icneI 131 129 F_Mo_looksAt_126 rfl rfl (by omega) (by omega) (fun h126 => ?_) (fun h126 => ?_)
          · refine Rg.step 132 F_Mo_looksAt_131 rfl (fun _ => rfl) ?_
            refine Rg.step 133 F_Mo_looksAt_132 rfl (fun _ => rfl) ?_
            refine Rg.cP0 (B := False) 134 F_Mo_looksAt_133 rfl (fun z => z) ?_
            refine Rg.step 135 F_Mo_looksAt_134 rfl (fun _ => rfl) ?_
            refine Rg.call 138 F_Mo_looksAt_135 rfl (one_V rM_26_252 (by decide) (by simp) rfl rfl (gM hp) rfl) (Nat.le_of_ble_eq_true rfl) (Cg.any (c_Mo_howChanged hp hw wT (by omega) (by omega))) ?_
            refine Rg.step 139 F_Mo_looksAt_138 rfl (fun _ => rfl) ?_
            refine Rg.icneI 146 142 F_Mo_looksAt_139 rfl rfl (by omega) (by omega) (fun h139 => ?_) (fun h139 => ?_)
            · refine Rg.step 147 F_Mo_looksAt_146 rfl (fun _ => rfl) ?_
              exact Rg.ret0 F_Mo_looksAt_147 rfl (fun z => z.elim (fun ⟨j, z1, z2, z3⟩ => hn j z1 (by omega) z3) (fun y => y.2.elim (fun x => by omega) (fun x => h139 x))) rfl
            · refine Rg.step 143 F_Mo_looksAt_142 rfl (fun _ => rfl) ?_
              refine Rg.step 147 F_Mo_looksAt_143 rfl (fun _ => rfl) ?_
              exact Rg.ret1 F_Mo_looksAt_147 rfl (Or.inr ⟨h90, Or.inr h139⟩) rfl
          · refine Rg.step 130 F_Mo_looksAt_129 rfl (fun _ => rfl) ?_
            exact Rg.ret1 F_Mo_looksAt_130 rfl (Or.inr ⟨h90, Or.inl ⟨by omega, by omega⟩⟩) rfl
    · refine Rg.step 94 F_Mo_looksAt_93 rfl (fun _ => rfl) ?_
      exact Rg.ret0 F_Mo_looksAt_94 rfl (fun z => z.elim (fun ⟨j, z1, z2, z3⟩ => hn j z1 (by omega) z3) (fun y => y.1 h90)) rfl
  | succ n ih =>
    intro k hk hk2 hn
    have d1 := wnT k
    have d2 := wnO k
    have d3 := wnH k
    refine Rg.step 19 F_Mo_looksAt_17 rfl (fun _ => rfl) ?_
    refine Rg.bip 21 F_Mo_looksAt_19 rfl rfl ?_
    refine Rg.step 23 F_Mo_looksAt_21 rfl (fun _ => rfl) ?_
    refine Rg.mulI 24 F_Mo_looksAt_23 rfl ?_
    refine Rg.step 25 F_Mo_looksAt_24 rfl (fun _ => rfl) ?_
    refine Rg.getf 28 F_Mo_looksAt_25 rfl rF_26_48 (gM hp) rfl ?_
    refine Rg.step 30 F_Mo_looksAt_28 rfl (fun _ => rfl) ?_
    refine Rg.ild 31 F_Mo_looksAt_30 rfl (gR_needs hp) (by omega) (by decide) ?_
    refine Rg.addI 32 F_Mo_looksAt_31 rfl ?_
    refine Rg.icgeI 89 35 F_Mo_looksAt_32 rfl rfl (by omega) (by omega) (fun h32 => by omega) (fun _ => ?_)
    refine Rg.step 36 F_Mo_looksAt_35 rfl (fun _ => rfl) ?_
    refine Rg.getf 39 F_Mo_looksAt_36 rfl rF_26_51 (gM hp) rfl ?_
    refine Rg.step 41 F_Mo_looksAt_39 rfl (fun _ => rfl) ?_
    refine Rg.ild 42 F_Mo_looksAt_41 rfl (gR_needTime hp) (by omega) (by decide) ?_
    refine Rg.step 43 F_Mo_looksAt_42 rfl (fun _ => rfl) ?_
    refine Rg.call 46 F_Mo_looksAt_43 rfl (one_S (by decide +kernel) rM_26_248 (by decide) (by simp) rfl rfl) (Nat.le_of_ble_eq_true rfl) (Cg.any (c_Mo_timeOf (by omega))) ?_
    refine Rg.icneI 83 49 F_Mo_looksAt_46 rfl rfl (by omega) (by omega) (fun h46 => ?_) (fun h46 => ?_)
    · refine Rg.inc 86 F_Mo_looksAt_83 rfl rfl (by decide) ?_
      refine Rg.step 17 F_Mo_looksAt_86 rfl (fun _ => rfl) ?_
      refine Rg.weak (ih (k + 1) (by omega) (by omega) (fun j z1 z2 => ?_)) (by simp [lput1, lput2, Value.category, fi0, fi1, fi2, fi3] <;> first | rfl | exact ⟨rfl, rfl⟩) (by simp [lput1, lput2, Value.category, fi0, fi1, fi2, fi3] <;> first | rfl | exact ⟨rfl, rfl⟩)
      by_cases hj : j = k
      · rw [hj]; exact fun z => h46 z.1
      · exact hn j z1 (by omega)
    · refine Rg.step 50 F_Mo_looksAt_49 rfl (fun _ => rfl) ?_
      refine Rg.getf 53 F_Mo_looksAt_50 rfl rF_26_57 (gM hp) rfl ?_
      refine Rg.step 55 F_Mo_looksAt_53 rfl (fun _ => rfl) ?_
      refine Rg.ild 56 F_Mo_looksAt_55 rfl (gR_needHow hp) (by omega) (by decide) ?_
      refine Rg.bip 58 F_Mo_looksAt_56 rfl rfl ?_
      refine Rg.icleI 65 61 F_Mo_looksAt_58 rfl rfl (by omega) (by omega) (fun h58 => ?_) (fun h58 => ?_)
      · refine Rg.cP0 (B := (9 < needHow k)) 66 F_Mo_looksAt_65 rfl (by omega) ?_
        refine Rg.step 67 F_Mo_looksAt_66 rfl (fun _ => rfl) ?_
        refine Rg.icneP 83 70 F_Mo_looksAt_67 rfl rfl (fun h67 => ?_) (fun h67 => ?_)
        · refine Rg.inc 86 F_Mo_looksAt_83 rfl rfl (by decide) ?_
          refine Rg.step 17 F_Mo_looksAt_86 rfl (fun _ => rfl) ?_
          refine Rg.weak (ih (k + 1) (by omega) (by omega) (fun j z1 z2 => ?_)) (by simp [lput1, lput2, Value.category, fi0, fi1, fi2, fi3] <;> first | rfl | exact ⟨rfl, rfl⟩) (by simp [lput1, lput2, Value.category, fi0, fi1, fi2, fi3] <;> first | rfl | exact ⟨rfl, rfl⟩)
          by_cases hj : j = k
          · rw [hj]; exact fun z => h67 z.2.1
          · exact hn j z1 (by omega)
        · refine Rg.step 71 F_Mo_looksAt_70 rfl (fun _ => rfl) ?_
          refine Rg.getf 74 F_Mo_looksAt_71 rfl rF_26_54 (gM hp) rfl ?_
          refine Rg.step 76 F_Mo_looksAt_74 rfl (fun _ => rfl) ?_
          refine Rg.ild 77 F_Mo_looksAt_76 rfl (gR_needOf hp) (by omega) (by decide) ?_
          refine Rg.step 78 F_Mo_looksAt_77 rfl (fun _ => rfl) ?_
          refine Rg.icneI 83 81 F_Mo_looksAt_78 rfl rfl (by omega) (by omega) (fun h78 => ?_) (fun h78 => ?_)
          · refine Rg.inc 86 F_Mo_looksAt_83 rfl rfl (by decide) ?_
            refine Rg.step 17 F_Mo_looksAt_86 rfl (fun _ => rfl) ?_
            refine Rg.weak (ih (k + 1) (by omega) (by omega) (fun j z1 z2 => ?_)) (by simp [lput1, lput2, Value.category, fi0, fi1, fi2, fi3] <;> first | rfl | exact ⟨rfl, rfl⟩) (by simp [lput1, lput2, Value.category, fi0, fi1, fi2, fi3] <;> first | rfl | exact ⟨rfl, rfl⟩)
            by_cases hj : j = k
            · rw [hj]; exact fun z => h78 z.2.2
            · exact hn j z1 (by omega)
          · refine Rg.step 82 F_Mo_looksAt_81 rfl (fun _ => rfl) ?_
            exact Rg.ret1 F_Mo_looksAt_82 rfl (Or.inl ⟨k, by omega, by omega, h46, h67, h78⟩) rfl
      · refine Rg.cP1 (B := (9 < needHow k)) 62 F_Mo_looksAt_61 rfl (by omega) ?_
        refine Rg.step 66 F_Mo_looksAt_62 rfl (fun _ => rfl) ?_
        refine Rg.step 67 F_Mo_looksAt_66 rfl (fun _ => rfl) ?_
        refine Rg.icneP 83 70 F_Mo_looksAt_67 rfl rfl (fun h67 => ?_) (fun h67 => ?_)
        · refine Rg.inc 86 F_Mo_looksAt_83 rfl rfl (by decide) ?_
          refine Rg.step 17 F_Mo_looksAt_86 rfl (fun _ => rfl) ?_
          refine Rg.weak (ih (k + 1) (by omega) (by omega) (fun j z1 z2 => ?_)) (by simp [lput1, lput2, Value.category, fi0, fi1, fi2, fi3] <;> first | rfl | exact ⟨rfl, rfl⟩) (by simp [lput1, lput2, Value.category, fi0, fi1, fi2, fi3] <;> first | rfl | exact ⟨rfl, rfl⟩)
          by_cases hj : j = k
          · rw [hj]; exact fun z => h67 z.2.1
          · exact hn j z1 (by omega)
        · refine Rg.step 71 F_Mo_looksAt_70 rfl (fun _ => rfl) ?_
          refine Rg.getf 74 F_Mo_looksAt_71 rfl rF_26_54 (gM hp) rfl ?_
          refine Rg.step 76 F_Mo_looksAt_74 rfl (fun _ => rfl) ?_
          refine Rg.ild 77 F_Mo_looksAt_76 rfl (gR_needOf hp) (by omega) (by decide) ?_
          refine Rg.step 78 F_Mo_looksAt_77 rfl (fun _ => rfl) ?_
          refine Rg.icneI 83 81 F_Mo_looksAt_78 rfl rfl (by omega) (by omega) (fun h78 => ?_) (fun h78 => ?_)
          · refine Rg.inc 86 F_Mo_looksAt_83 rfl rfl (by decide) ?_
            refine Rg.step 17 F_Mo_looksAt_86 rfl (fun _ => rfl) ?_
            refine Rg.weak (ih (k + 1) (by omega) (by omega) (fun j z1 z2 => ?_)) (by simp [lput1, lput2, Value.category, fi0, fi1, fi2, fi3] <;> first | rfl | exact ⟨rfl, rfl⟩) (by simp [lput1, lput2, Value.category, fi0, fi1, fi2, fi3] <;> first | rfl | exact ⟨rfl, rfl⟩)
            by_cases hj : j = k
            · rw [hj]; exact fun z => h78 z.2.2
            · exact hn j z1 (by omega)
          · refine Rg.step 82 F_Mo_looksAt_81 rfl (fun _ => rfl) ?_
            exact Rg.ret1 F_Mo_looksAt_82 rfl (Or.inl ⟨k, by omega, by omega, h46, h67, h78⟩) rfl
theorem c_Mo_looksAt {d : Nat}  (hp : pre.length = 168) (hw : WT epsilonN epsilonD wishes wants wantN wantD actions needs needTime needOf needHow needN needD changes changeTime changeOf changeHow changeN changeD lastOf lastN lastD firstN firstD) (wT : ∀ s, 0 ≤ triedAction s ∧ triedAction s < 12) {p of : Int} {F : Prop} (h1 : 0 ≤ p ∧ p < 24) (h2 : 0 ≤ of ∧ of ≤ 15) : Cg true (d + 2) m_Mo_looksAt [.ref 168, .int (iI p), .int (bP F), .int (iI of)] (MR pre code amountN amountD momentN momentD epsilonN epsilonD firstFacts firstN firstD wishes wants wantN wantD actions needs needTime needOf needHow needN needD changes changeTime changeOf changeHow changeN changeD lastOf lastN lastD steps stepAction startN startD lengthN lengthD rows row tried triedAction triedRows triedRow times unit facts numN numD oldFacts oldN oldD point judged fault faultPoint toldFacts toldN toldD outN outD pointN pointD gone now leastN leastD greatestN greatestD events post) (.inl (some (.int (bP (looks needs needTime needHow needOf lastOf changes changeTime changeHow changeOf (triedAction (p / 2)) (tmo p) F of))))) (MR pre code amountN amountD momentN momentD epsilonN epsilonD firstFacts firstN firstD wishes wants wantN wantD actions needs needTime needOf needHow needN needD changes changeTime changeOf changeHow changeN changeD lastOf lastN lastD steps stepAction startN startD lengthN lengthD rows row tried triedAction triedRows triedRow times unit facts numN numD oldFacts oldN oldD point judged fault faultPoint toldFacts toldN toldD outN outD pointN pointD gone now leastN leastD greatestN greatestD events post) := by
  obtain ⟨-, -, -, -, -, wn, -, -, -, -, -, -, -, -, -, -, -, -, -, -, -⟩ := id hw
  have c0 := wT (p / 2)
  have c1 := wn (triedAction (p / 2))
  refine Cg.of (Nat.le_of_ble_eq_true rfl) ?_
  change Rg _ _ _ _ 0 [(0, .ref 168), (1, .int (iI p)), (2, .int (bP F)), (3, .int (iI of))] [] _ _ _
  refine Rg.step 1 F_Mo_looksAt_0 rfl (fun _ => rfl) ?_
  refine Rg.getf 4 F_Mo_looksAt_1 rfl rF_26_111 (gM hp) rfl ?_
  refine Rg.step 5 F_Mo_looksAt_4 rfl (fun _ => rfl) ?_
  refine Rg.step 6 F_Mo_looksAt_5 rfl (fun _ => rfl) ?_
  refine Rg.divIp 7 F_Mo_looksAt_6 rfl (by omega) (by omega) ?_
  refine Rg.ild 8 F_Mo_looksAt_7 rfl (gR_triedAction hp) (by omega) (by decide) ?_
  refine Rg.step 10 F_Mo_looksAt_8 rfl (fun _ => rfl) ?_
  refine Rg.bip 12 F_Mo_looksAt_10 rfl rfl ?_
  refine Rg.step 14 F_Mo_looksAt_12 rfl (fun _ => rfl) ?_
  refine Rg.mulI 15 F_Mo_looksAt_14 rfl ?_
  refine Rg.step 17 F_Mo_looksAt_15 rfl (fun _ => rfl) ?_
  exact Rg.weak (looks_loop hp hw wT h1 h2 (needs (triedAction (p / 2))).toNat (8 * triedAction (p / 2)) (by omega) (by omega) (fun j z1 z2 => by omega)) (by simp [lput1, lput2, Value.category, fi0, fi1, fi2, fi3] <;> first | rfl | exact ⟨rfl, rfl⟩) (by simp [lput1, lput2, Value.category, fi0, fi1, fi2, fi3] <;> first | rfl | exact ⟨rfl, rfl⟩)
theorem c_Mo_clash {d : Nat}  (hp : pre.length = 168) (hw : WT epsilonN epsilonD wishes wants wantN wantD actions needs needTime needOf needHow needN needD changes changeTime changeOf changeHow changeN changeD lastOf lastN lastD firstN firstD) (wT : ∀ s, 0 ≤ triedAction s ∧ triedAction s < 12) {p q of : Int} {F : Prop} (h1 : 0 ≤ p ∧ p < 24) (h3 : 0 ≤ q ∧ q < 24) (h2 : 0 ≤ of ∧ of ≤ 15) : Cg true (d + 3) m_Mo_clash [.ref 168, .int (iI p), .int (iI q), .int (bP F), .int (iI of)] (MR pre code amountN amountD momentN momentD epsilonN epsilonD firstFacts firstN firstD wishes wants wantN wantD actions needs needTime needOf needHow needN needD changes changeTime changeOf changeHow changeN changeD lastOf lastN lastD steps stepAction startN startD lengthN lengthD rows row tried triedAction triedRows triedRow times unit facts numN numD oldFacts oldN oldD point judged fault faultPoint toldFacts toldN toldD outN outD pointN pointD gone now leastN leastD greatestN greatestD events post) (.inl (some (.int (bP (clash needs needTime needHow needOf lastOf changes changeTime changeHow changeOf (triedAction (p / 2)) (tmo p) (triedAction (q / 2)) (tmo q) F of))))) (MR pre code amountN amountD momentN momentD epsilonN epsilonD firstFacts firstN firstD wishes wants wantN wantD actions needs needTime needOf needHow needN needD changes changeTime changeOf changeHow changeN changeD lastOf lastN lastD steps stepAction startN startD lengthN lengthD rows row tried triedAction triedRows triedRow times unit facts numN numD oldFacts oldN oldD point judged fault faultPoint toldFacts toldN toldD outN outD pointN pointD gone now leastN leastD greatestN greatestD events post) := by
  obtain ⟨-, -, -, -, -, -, -, -, -, -, -, -, -, -, wcH, -, -, -, -, -, -⟩ := id hw
  have x1 : -1 ≤ hch changes changeTime changeHow changeOf (triedAction (p / 2)) (tmo p) F of ∧ hch changes changeTime changeHow changeOf (triedAction (p / 2)) (tmo p) F of ≤ 11 := by
    have z := wcH (chg changes changeTime changeHow changeOf (triedAction (p / 2)) (tmo p) F of)
    unfold hch
    split <;> omega
  have x2 : -1 ≤ hch changes changeTime changeHow changeOf (triedAction (q / 2)) (tmo q) F of ∧ hch changes changeTime changeHow changeOf (triedAction (q / 2)) (tmo q) F of ≤ 11 := by
    have z := wcH (chg changes changeTime changeHow changeOf (triedAction (q / 2)) (tmo q) F of)
    unfold hch
    split <;> omega
  refine Cg.of (Nat.le_of_ble_eq_true rfl) ?_
  change Rg _ _ _ _ 0 [(0, .ref 168), (1, .int (iI p)), (2, .int (iI q)), (3, .int (bP F)), (4, .int (iI of))] [] _ _ _
  refine Rg.step 1 F_Mo_clash_0 rfl (fun _ => rfl) ?_
  refine Rg.step 2 F_Mo_clash_1 rfl (fun _ => rfl) ?_
  refine Rg.step 3 F_Mo_clash_2 rfl (fun _ => rfl) ?_
  refine Rg.step 5 F_Mo_clash_3 rfl (fun _ => rfl) ?_
  refine Rg.call 8 F_Mo_clash_5 rfl (one_V rM_26_252 (by decide) (by simp) rfl rfl (gM hp) rfl) (Nat.le_of_ble_eq_true rfl) (Cg.any (c_Mo_howChanged hp hw wT (by omega) (by omega))) ?_
  refine Rg.step 10 F_Mo_clash_8 rfl (fun _ => rfl) ?_
  refine Rg.step 11 F_Mo_clash_10 rfl (fun _ => rfl) ?_
  refine Rg.step 12 F_Mo_clash_11 rfl (fun _ => rfl) ?_
  refine Rg.step 13 F_Mo_clash_12 rfl (fun _ => rfl) ?_
  refine Rg.step 15 F_Mo_clash_13 rfl (fun _ => rfl) ?_
  refine Rg.call 18 F_Mo_clash_15 rfl (one_V rM_26_252 (by decide) (by simp) rfl rfl (gM hp) rfl) (Nat.le_of_ble_eq_true rfl) (Cg.any (c_Mo_howChanged hp hw wT (by omega) (by omega))) ?_
  refine Rg.step 20 F_Mo_clash_18 rfl (fun _ => rfl) ?_
  refine Rg.step 22 F_Mo_clash_20 rfl (fun _ => rfl) ?_
  refine Rg.ifltI 36 25 F_Mo_clash_22 rfl rfl (by omega) (fun h22 => ?_) (fun h22 => ?_)
  · refine Rg.step 38 F_Mo_clash_36 rfl (fun _ => rfl) ?_
    refine Rg.ifltI 54 41 F_Mo_clash_38 rfl rfl (by omega) (fun h38 => ?_) (fun h38 => ?_)
    · refine Rg.step 56 F_Mo_clash_54 rfl (fun _ => rfl) ?_
      refine Rg.ifltI 64 59 F_Mo_clash_56 rfl rfl (by omega) (fun h56 => ?_) (fun h56 => ?_)
      · refine Rg.step 65 F_Mo_clash_64 rfl (fun _ => rfl) ?_
        exact Rg.ret0 F_Mo_clash_65 rfl (fun w => w.elim (fun z => absurd z.1 (by omega)) (fun w2 => w2.elim (fun z => absurd z.1 (by omega)) (fun z => absurd z (by omega)))) rfl
      · refine Rg.step 61 F_Mo_clash_59 rfl (fun _ => rfl) ?_
        refine Rg.ifgeI 66 64 F_Mo_clash_61 rfl rfl (by omega) (fun h61 => ?_) (fun h61 => ?_)
        · refine Rg.step 67 F_Mo_clash_66 rfl (fun _ => rfl) ?_
          refine Rg.ifeqP 85 70 F_Mo_clash_67 rfl rfl (fun h67 => ?_) (fun h67 => ?_)
          · refine Rg.step 87 F_Mo_clash_85 rfl (fun _ => rfl) ?_
            refine Rg.step 88 F_Mo_clash_87 rfl (fun _ => rfl) ?_
            refine Rg.iceqI 97 91 F_Mo_clash_88 rfl rfl (by omega) (by omega) (fun h88 => ?_) (fun h88 => ?_)
            · refine Rg.step 99 F_Mo_clash_97 rfl (fun _ => rfl) ?_
              refine Rg.step 100 F_Mo_clash_99 rfl (fun _ => rfl) ?_
              refine Rg.iceqI 113 103 F_Mo_clash_100 rfl rfl (by omega) (by omega) (fun h100 => ?_) (fun h100 => ?_)
              · refine Rg.step 114 F_Mo_clash_113 rfl (fun _ => rfl) ?_
                exact Rg.ret0 F_Mo_clash_114 rfl (fun w => w.elim (fun z => absurd z.1 (by omega)) (fun w2 => w2.elim (fun z => absurd z.1 (by omega)) (fun z => z.2.2.elim (fun y => h67 y.1) (fun y => absurd y.2 (by omega))))) rfl
              · refine Rg.step 105 F_Mo_clash_103 rfl (fun _ => rfl) ?_
                refine Rg.step 106 F_Mo_clash_105 rfl (fun _ => rfl) ?_
                refine Rg.iceqI 113 109 F_Mo_clash_106 rfl rfl (by omega) (by omega) (fun h106 => ?_) (fun h106 => ?_)
                · refine Rg.step 114 F_Mo_clash_113 rfl (fun _ => rfl) ?_
                  exact Rg.ret0 F_Mo_clash_114 rfl (fun w => w.elim (fun z => absurd z.1 (by omega)) (fun w2 => w2.elim (fun z => absurd z.1 (by omega)) (fun z => z.2.2.elim (fun y => h67 y.1) (fun y => absurd y.2 (by omega))))) rfl
                · refine Rg.step 110 F_Mo_clash_109 rfl (fun _ => rfl) ?_
                  refine Rg.step 114 F_Mo_clash_110 rfl (fun _ => rfl) ?_
                  exact Rg.ret1 F_Mo_clash_114 rfl (Or.inr (Or.inr ⟨by omega, by omega, Or.inr ⟨h67, by omega⟩⟩)) rfl
            · refine Rg.step 93 F_Mo_clash_91 rfl (fun _ => rfl) ?_
              refine Rg.step 94 F_Mo_clash_93 rfl (fun _ => rfl) ?_
              refine Rg.icneI 109 97 F_Mo_clash_94 rfl rfl (by omega) (by omega) (fun h94 => ?_) (fun h94 => ?_)
              · refine Rg.step 110 F_Mo_clash_109 rfl (fun _ => rfl) ?_
                refine Rg.step 114 F_Mo_clash_110 rfl (fun _ => rfl) ?_
                exact Rg.ret1 F_Mo_clash_114 rfl (Or.inr (Or.inr ⟨by omega, by omega, Or.inr ⟨h67, by omega⟩⟩)) rfl
              · refine Rg.step 99 F_Mo_clash_97 rfl (fun _ => rfl) ?_
                refine Rg.step 100 F_Mo_clash_99 rfl (fun _ => rfl) ?_
                refine Rg.iceqI 113 103 F_Mo_clash_100 rfl rfl (by omega) (by omega) (fun h100 => ?_) (fun h100 => ?_)
                · refine Rg.step 114 F_Mo_clash_113 rfl (fun _ => rfl) ?_
                  exact Rg.ret0 F_Mo_clash_114 rfl (fun w => w.elim (fun z => absurd z.1 (by omega)) (fun w2 => w2.elim (fun z => absurd z.1 (by omega)) (fun z => z.2.2.elim (fun y => h67 y.1) (fun y => absurd y.2 (by omega))))) rfl
                · refine Rg.step 105 F_Mo_clash_103 rfl (fun _ => rfl) ?_
                  refine Rg.step 106 F_Mo_clash_105 rfl (fun _ => rfl) ?_
                  refine Rg.iceqI 113 109 F_Mo_clash_106 rfl rfl (by omega) (by omega) (fun h106 => ?_) (fun h106 => ?_)
                  · refine Rg.step 114 F_Mo_clash_113 rfl (fun _ => rfl) ?_
                    exact Rg.ret0 F_Mo_clash_114 rfl (fun w => w.elim (fun z => absurd z.1 (by omega)) (fun w2 => w2.elim (fun z => absurd z.1 (by omega)) (fun z => z.2.2.elim (fun y => h67 y.1) (fun y => absurd y.2 (by omega))))) rfl
                  · refine Rg.step 110 F_Mo_clash_109 rfl (fun _ => rfl) ?_
                    refine Rg.step 114 F_Mo_clash_110 rfl (fun _ => rfl) ?_
                    exact Rg.ret1 F_Mo_clash_114 rfl (Or.inr (Or.inr ⟨by omega, by omega, Or.inr ⟨h67, by omega⟩⟩)) rfl
          · refine Rg.step 72 F_Mo_clash_70 rfl (fun _ => rfl) ?_
            refine Rg.step 74 F_Mo_clash_72 rfl (fun _ => rfl) ?_
            refine Rg.iceqI 81 77 F_Mo_clash_74 rfl rfl (by omega) (by omega) (fun h74 => ?_) (fun h74 => ?_)
            · refine Rg.step 82 F_Mo_clash_81 rfl (fun _ => rfl) ?_
              refine Rg.step 114 F_Mo_clash_82 rfl (fun _ => rfl) ?_
              exact Rg.ret0 F_Mo_clash_114 rfl (fun w => w.elim (fun z => absurd z.1 (by omega)) (fun w2 => w2.elim (fun z => absurd z.1 (by omega)) (fun z => z.2.2.elim (fun y => y.2 h74) (fun y => y.1 h67)))) rfl
            · refine Rg.step 78 F_Mo_clash_77 rfl (fun _ => rfl) ?_
              refine Rg.step 114 F_Mo_clash_78 rfl (fun _ => rfl) ?_
              exact Rg.ret1 F_Mo_clash_114 rfl (Or.inr (Or.inr ⟨by omega, by omega, Or.inl ⟨h67, h74⟩⟩)) rfl
        · refine Rg.step 65 F_Mo_clash_64 rfl (fun _ => rfl) ?_
          exact Rg.ret0 F_Mo_clash_65 rfl (fun w => w.elim (fun z => absurd z.1 (by omega)) (fun w2 => w2.elim (fun z => absurd z.1 (by omega)) (fun z => absurd z (by omega)))) rfl
    · refine Rg.step 42 F_Mo_clash_41 rfl (fun _ => rfl) ?_
      refine Rg.step 43 F_Mo_clash_42 rfl (fun _ => rfl) ?_
      refine Rg.step 44 F_Mo_clash_43 rfl (fun _ => rfl) ?_
      refine Rg.step 46 F_Mo_clash_44 rfl (fun _ => rfl) ?_
      refine Rg.call 49 F_Mo_clash_46 rfl (one_V rM_26_256 (by decide) (by simp) rfl rfl (gM hp) rfl) (Nat.le_of_ble_eq_true rfl) (Cg.any (c_Mo_looksAt hp hw wT (by omega) (by omega))) ?_
      refine Rg.ifeqP 54 52 F_Mo_clash_49 rfl rfl (fun h49 => ?_) (fun h49 => ?_)
      · refine Rg.step 56 F_Mo_clash_54 rfl (fun _ => rfl) ?_
        refine Rg.ifltI 64 59 F_Mo_clash_56 rfl rfl (by omega) (fun h56 => ?_) (fun h56 => ?_)
        · refine Rg.step 65 F_Mo_clash_64 rfl (fun _ => rfl) ?_
          exact Rg.ret0 F_Mo_clash_65 rfl (fun w => w.elim (fun z => absurd z.1 (by omega)) (fun w2 => w2.elim (fun z => h49 z.2) (fun z => absurd z (by omega)))) rfl
        · refine Rg.step 61 F_Mo_clash_59 rfl (fun _ => rfl) ?_
          refine Rg.ifgeI 66 64 F_Mo_clash_61 rfl rfl (by omega) (fun h61 => ?_) (fun h61 => ?_)
          · refine Rg.step 67 F_Mo_clash_66 rfl (fun _ => rfl) ?_
            refine Rg.ifeqP 85 70 F_Mo_clash_67 rfl rfl (fun h67 => ?_) (fun h67 => ?_)
            · refine Rg.step 87 F_Mo_clash_85 rfl (fun _ => rfl) ?_
              refine Rg.step 88 F_Mo_clash_87 rfl (fun _ => rfl) ?_
              refine Rg.iceqI 97 91 F_Mo_clash_88 rfl rfl (by omega) (by omega) (fun h88 => ?_) (fun h88 => ?_)
              · refine Rg.step 99 F_Mo_clash_97 rfl (fun _ => rfl) ?_
                refine Rg.step 100 F_Mo_clash_99 rfl (fun _ => rfl) ?_
                refine Rg.iceqI 113 103 F_Mo_clash_100 rfl rfl (by omega) (by omega) (fun h100 => ?_) (fun h100 => ?_)
                · refine Rg.step 114 F_Mo_clash_113 rfl (fun _ => rfl) ?_
                  exact Rg.ret0 F_Mo_clash_114 rfl (fun w => w.elim (fun z => absurd z.1 (by omega)) (fun w2 => w2.elim (fun z => h49 z.2) (fun z => z.2.2.elim (fun y => h67 y.1) (fun y => absurd y.2 (by omega))))) rfl
                · refine Rg.step 105 F_Mo_clash_103 rfl (fun _ => rfl) ?_
                  refine Rg.step 106 F_Mo_clash_105 rfl (fun _ => rfl) ?_
                  refine Rg.iceqI 113 109 F_Mo_clash_106 rfl rfl (by omega) (by omega) (fun h106 => ?_) (fun h106 => ?_)
                  · refine Rg.step 114 F_Mo_clash_113 rfl (fun _ => rfl) ?_
                    exact Rg.ret0 F_Mo_clash_114 rfl (fun w => w.elim (fun z => absurd z.1 (by omega)) (fun w2 => w2.elim (fun z => h49 z.2) (fun z => z.2.2.elim (fun y => h67 y.1) (fun y => absurd y.2 (by omega))))) rfl
                  · refine Rg.step 110 F_Mo_clash_109 rfl (fun _ => rfl) ?_
                    refine Rg.step 114 F_Mo_clash_110 rfl (fun _ => rfl) ?_
                    exact Rg.ret1 F_Mo_clash_114 rfl (Or.inr (Or.inr ⟨by omega, by omega, Or.inr ⟨h67, by omega⟩⟩)) rfl
              · refine Rg.step 93 F_Mo_clash_91 rfl (fun _ => rfl) ?_
                refine Rg.step 94 F_Mo_clash_93 rfl (fun _ => rfl) ?_
                refine Rg.icneI 109 97 F_Mo_clash_94 rfl rfl (by omega) (by omega) (fun h94 => ?_) (fun h94 => ?_)
                · refine Rg.step 110 F_Mo_clash_109 rfl (fun _ => rfl) ?_
                  refine Rg.step 114 F_Mo_clash_110 rfl (fun _ => rfl) ?_
                  exact Rg.ret1 F_Mo_clash_114 rfl (Or.inr (Or.inr ⟨by omega, by omega, Or.inr ⟨h67, by omega⟩⟩)) rfl
                · refine Rg.step 99 F_Mo_clash_97 rfl (fun _ => rfl) ?_
                  refine Rg.step 100 F_Mo_clash_99 rfl (fun _ => rfl) ?_
                  refine Rg.iceqI 113 103 F_Mo_clash_100 rfl rfl (by omega) (by omega) (fun h100 => ?_) (fun h100 => ?_)
                  · refine Rg.step 114 F_Mo_clash_113 rfl (fun _ => rfl) ?_
                    exact Rg.ret0 F_Mo_clash_114 rfl (fun w => w.elim (fun z => absurd z.1 (by omega)) (fun w2 => w2.elim (fun z => h49 z.2) (fun z => z.2.2.elim (fun y => h67 y.1) (fun y => absurd y.2 (by omega))))) rfl
                  · refine Rg.step 105 F_Mo_clash_103 rfl (fun _ => rfl) ?_
                    refine Rg.step 106 F_Mo_clash_105 rfl (fun _ => rfl) ?_
                    refine Rg.iceqI 113 109 F_Mo_clash_106 rfl rfl (by omega) (by omega) (fun h106 => ?_) (fun h106 => ?_)
                    · refine Rg.step 114 F_Mo_clash_113 rfl (fun _ => rfl) ?_
                      exact Rg.ret0 F_Mo_clash_114 rfl (fun w => w.elim (fun z => absurd z.1 (by omega)) (fun w2 => w2.elim (fun z => h49 z.2) (fun z => z.2.2.elim (fun y => h67 y.1) (fun y => absurd y.2 (by omega))))) rfl
                    · refine Rg.step 110 F_Mo_clash_109 rfl (fun _ => rfl) ?_
                      refine Rg.step 114 F_Mo_clash_110 rfl (fun _ => rfl) ?_
                      exact Rg.ret1 F_Mo_clash_114 rfl (Or.inr (Or.inr ⟨by omega, by omega, Or.inr ⟨h67, by omega⟩⟩)) rfl
            · refine Rg.step 72 F_Mo_clash_70 rfl (fun _ => rfl) ?_
              refine Rg.step 74 F_Mo_clash_72 rfl (fun _ => rfl) ?_
              refine Rg.iceqI 81 77 F_Mo_clash_74 rfl rfl (by omega) (by omega) (fun h74 => ?_) (fun h74 => ?_)
              · refine Rg.step 82 F_Mo_clash_81 rfl (fun _ => rfl) ?_
                refine Rg.step 114 F_Mo_clash_82 rfl (fun _ => rfl) ?_
                exact Rg.ret0 F_Mo_clash_114 rfl (fun w => w.elim (fun z => absurd z.1 (by omega)) (fun w2 => w2.elim (fun z => h49 z.2) (fun z => z.2.2.elim (fun y => y.2 h74) (fun y => y.1 h67)))) rfl
              · refine Rg.step 78 F_Mo_clash_77 rfl (fun _ => rfl) ?_
                refine Rg.step 114 F_Mo_clash_78 rfl (fun _ => rfl) ?_
                exact Rg.ret1 F_Mo_clash_114 rfl (Or.inr (Or.inr ⟨by omega, by omega, Or.inl ⟨h67, h74⟩⟩)) rfl
          · refine Rg.step 65 F_Mo_clash_64 rfl (fun _ => rfl) ?_
            exact Rg.ret0 F_Mo_clash_65 rfl (fun w => w.elim (fun z => absurd z.1 (by omega)) (fun w2 => w2.elim (fun z => h49 z.2) (fun z => absurd z (by omega)))) rfl
      · refine Rg.step 53 F_Mo_clash_52 rfl (fun _ => rfl) ?_
        exact Rg.ret1 F_Mo_clash_53 rfl (Or.inr (Or.inl ⟨by omega, h49⟩)) rfl
  · refine Rg.step 26 F_Mo_clash_25 rfl (fun _ => rfl) ?_
    refine Rg.step 27 F_Mo_clash_26 rfl (fun _ => rfl) ?_
    refine Rg.step 28 F_Mo_clash_27 rfl (fun _ => rfl) ?_
    refine Rg.step 30 F_Mo_clash_28 rfl (fun _ => rfl) ?_
    refine Rg.call 33 F_Mo_clash_30 rfl (one_V rM_26_256 (by decide) (by simp) rfl rfl (gM hp) rfl) (Nat.le_of_ble_eq_true rfl) (Cg.any (c_Mo_looksAt hp hw wT (by omega) (by omega))) ?_
    refine Rg.ifneP 52 36 F_Mo_clash_33 rfl rfl (fun h33 => ?_) (fun h33 => ?_)
    · refine Rg.step 53 F_Mo_clash_52 rfl (fun _ => rfl) ?_
      exact Rg.ret1 F_Mo_clash_53 rfl (Or.inl ⟨by omega, h33⟩) rfl
    · refine Rg.step 38 F_Mo_clash_36 rfl (fun _ => rfl) ?_
      refine Rg.ifltI 54 41 F_Mo_clash_38 rfl rfl (by omega) (fun h38 => ?_) (fun h38 => ?_)
      · refine Rg.step 56 F_Mo_clash_54 rfl (fun _ => rfl) ?_
        refine Rg.ifltI 64 59 F_Mo_clash_56 rfl rfl (by omega) (fun h56 => ?_) (fun h56 => ?_)
        · refine Rg.step 65 F_Mo_clash_64 rfl (fun _ => rfl) ?_
          exact Rg.ret0 F_Mo_clash_65 rfl (fun w => w.elim (fun z => h33 z.2) (fun w2 => w2.elim (fun z => absurd z.1 (by omega)) (fun z => absurd z (by omega)))) rfl
        · refine Rg.step 61 F_Mo_clash_59 rfl (fun _ => rfl) ?_
          refine Rg.ifgeI 66 64 F_Mo_clash_61 rfl rfl (by omega) (fun h61 => ?_) (fun h61 => ?_)
          · refine Rg.step 67 F_Mo_clash_66 rfl (fun _ => rfl) ?_
            refine Rg.ifeqP 85 70 F_Mo_clash_67 rfl rfl (fun h67 => ?_) (fun h67 => ?_)
            · refine Rg.step 87 F_Mo_clash_85 rfl (fun _ => rfl) ?_
              refine Rg.step 88 F_Mo_clash_87 rfl (fun _ => rfl) ?_
              refine Rg.iceqI 97 91 F_Mo_clash_88 rfl rfl (by omega) (by omega) (fun h88 => ?_) (fun h88 => ?_)
              · refine Rg.step 99 F_Mo_clash_97 rfl (fun _ => rfl) ?_
                refine Rg.step 100 F_Mo_clash_99 rfl (fun _ => rfl) ?_
                refine Rg.iceqI 113 103 F_Mo_clash_100 rfl rfl (by omega) (by omega) (fun h100 => ?_) (fun h100 => ?_)
                · refine Rg.step 114 F_Mo_clash_113 rfl (fun _ => rfl) ?_
                  exact Rg.ret0 F_Mo_clash_114 rfl (fun w => w.elim (fun z => h33 z.2) (fun w2 => w2.elim (fun z => absurd z.1 (by omega)) (fun z => z.2.2.elim (fun y => h67 y.1) (fun y => absurd y.2 (by omega))))) rfl
                · refine Rg.step 105 F_Mo_clash_103 rfl (fun _ => rfl) ?_
                  refine Rg.step 106 F_Mo_clash_105 rfl (fun _ => rfl) ?_
                  refine Rg.iceqI 113 109 F_Mo_clash_106 rfl rfl (by omega) (by omega) (fun h106 => ?_) (fun h106 => ?_)
                  · refine Rg.step 114 F_Mo_clash_113 rfl (fun _ => rfl) ?_
                    exact Rg.ret0 F_Mo_clash_114 rfl (fun w => w.elim (fun z => h33 z.2) (fun w2 => w2.elim (fun z => absurd z.1 (by omega)) (fun z => z.2.2.elim (fun y => h67 y.1) (fun y => absurd y.2 (by omega))))) rfl
                  · refine Rg.step 110 F_Mo_clash_109 rfl (fun _ => rfl) ?_
                    refine Rg.step 114 F_Mo_clash_110 rfl (fun _ => rfl) ?_
                    exact Rg.ret1 F_Mo_clash_114 rfl (Or.inr (Or.inr ⟨by omega, by omega, Or.inr ⟨h67, by omega⟩⟩)) rfl
              · refine Rg.step 93 F_Mo_clash_91 rfl (fun _ => rfl) ?_
                refine Rg.step 94 F_Mo_clash_93 rfl (fun _ => rfl) ?_
                refine Rg.icneI 109 97 F_Mo_clash_94 rfl rfl (by omega) (by omega) (fun h94 => ?_) (fun h94 => ?_)
                · refine Rg.step 110 F_Mo_clash_109 rfl (fun _ => rfl) ?_
                  refine Rg.step 114 F_Mo_clash_110 rfl (fun _ => rfl) ?_
                  exact Rg.ret1 F_Mo_clash_114 rfl (Or.inr (Or.inr ⟨by omega, by omega, Or.inr ⟨h67, by omega⟩⟩)) rfl
                · refine Rg.step 99 F_Mo_clash_97 rfl (fun _ => rfl) ?_
                  refine Rg.step 100 F_Mo_clash_99 rfl (fun _ => rfl) ?_
                  refine Rg.iceqI 113 103 F_Mo_clash_100 rfl rfl (by omega) (by omega) (fun h100 => ?_) (fun h100 => ?_)
                  · refine Rg.step 114 F_Mo_clash_113 rfl (fun _ => rfl) ?_
                    exact Rg.ret0 F_Mo_clash_114 rfl (fun w => w.elim (fun z => h33 z.2) (fun w2 => w2.elim (fun z => absurd z.1 (by omega)) (fun z => z.2.2.elim (fun y => h67 y.1) (fun y => absurd y.2 (by omega))))) rfl
                  · refine Rg.step 105 F_Mo_clash_103 rfl (fun _ => rfl) ?_
                    refine Rg.step 106 F_Mo_clash_105 rfl (fun _ => rfl) ?_
                    refine Rg.iceqI 113 109 F_Mo_clash_106 rfl rfl (by omega) (by omega) (fun h106 => ?_) (fun h106 => ?_)
                    · refine Rg.step 114 F_Mo_clash_113 rfl (fun _ => rfl) ?_
                      exact Rg.ret0 F_Mo_clash_114 rfl (fun w => w.elim (fun z => h33 z.2) (fun w2 => w2.elim (fun z => absurd z.1 (by omega)) (fun z => z.2.2.elim (fun y => h67 y.1) (fun y => absurd y.2 (by omega))))) rfl
                    · refine Rg.step 110 F_Mo_clash_109 rfl (fun _ => rfl) ?_
                      refine Rg.step 114 F_Mo_clash_110 rfl (fun _ => rfl) ?_
                      exact Rg.ret1 F_Mo_clash_114 rfl (Or.inr (Or.inr ⟨by omega, by omega, Or.inr ⟨h67, by omega⟩⟩)) rfl
            · refine Rg.step 72 F_Mo_clash_70 rfl (fun _ => rfl) ?_
              refine Rg.step 74 F_Mo_clash_72 rfl (fun _ => rfl) ?_
              refine Rg.iceqI 81 77 F_Mo_clash_74 rfl rfl (by omega) (by omega) (fun h74 => ?_) (fun h74 => ?_)
              · refine Rg.step 82 F_Mo_clash_81 rfl (fun _ => rfl) ?_
                refine Rg.step 114 F_Mo_clash_82 rfl (fun _ => rfl) ?_
                exact Rg.ret0 F_Mo_clash_114 rfl (fun w => w.elim (fun z => h33 z.2) (fun w2 => w2.elim (fun z => absurd z.1 (by omega)) (fun z => z.2.2.elim (fun y => y.2 h74) (fun y => y.1 h67)))) rfl
              · refine Rg.step 78 F_Mo_clash_77 rfl (fun _ => rfl) ?_
                refine Rg.step 114 F_Mo_clash_78 rfl (fun _ => rfl) ?_
                exact Rg.ret1 F_Mo_clash_114 rfl (Or.inr (Or.inr ⟨by omega, by omega, Or.inl ⟨h67, h74⟩⟩)) rfl
          · refine Rg.step 65 F_Mo_clash_64 rfl (fun _ => rfl) ?_
            exact Rg.ret0 F_Mo_clash_65 rfl (fun w => w.elim (fun z => h33 z.2) (fun w2 => w2.elim (fun z => absurd z.1 (by omega)) (fun z => absurd z (by omega)))) rfl
      · refine Rg.step 42 F_Mo_clash_41 rfl (fun _ => rfl) ?_
        refine Rg.step 43 F_Mo_clash_42 rfl (fun _ => rfl) ?_
        refine Rg.step 44 F_Mo_clash_43 rfl (fun _ => rfl) ?_
        refine Rg.step 46 F_Mo_clash_44 rfl (fun _ => rfl) ?_
        refine Rg.call 49 F_Mo_clash_46 rfl (one_V rM_26_256 (by decide) (by simp) rfl rfl (gM hp) rfl) (Nat.le_of_ble_eq_true rfl) (Cg.any (c_Mo_looksAt hp hw wT (by omega) (by omega))) ?_
        refine Rg.ifeqP 54 52 F_Mo_clash_49 rfl rfl (fun h49 => ?_) (fun h49 => ?_)
        · refine Rg.step 56 F_Mo_clash_54 rfl (fun _ => rfl) ?_
          refine Rg.ifltI 64 59 F_Mo_clash_56 rfl rfl (by omega) (fun h56 => ?_) (fun h56 => ?_)
          · refine Rg.step 65 F_Mo_clash_64 rfl (fun _ => rfl) ?_
            exact Rg.ret0 F_Mo_clash_65 rfl (fun w => w.elim (fun z => h33 z.2) (fun w2 => w2.elim (fun z => h49 z.2) (fun z => absurd z (by omega)))) rfl
          · refine Rg.step 61 F_Mo_clash_59 rfl (fun _ => rfl) ?_
            refine Rg.ifgeI 66 64 F_Mo_clash_61 rfl rfl (by omega) (fun h61 => ?_) (fun h61 => ?_)
            · refine Rg.step 67 F_Mo_clash_66 rfl (fun _ => rfl) ?_
              refine Rg.ifeqP 85 70 F_Mo_clash_67 rfl rfl (fun h67 => ?_) (fun h67 => ?_)
              · refine Rg.step 87 F_Mo_clash_85 rfl (fun _ => rfl) ?_
                refine Rg.step 88 F_Mo_clash_87 rfl (fun _ => rfl) ?_
                refine Rg.iceqI 97 91 F_Mo_clash_88 rfl rfl (by omega) (by omega) (fun h88 => ?_) (fun h88 => ?_)
                · refine Rg.step 99 F_Mo_clash_97 rfl (fun _ => rfl) ?_
                  refine Rg.step 100 F_Mo_clash_99 rfl (fun _ => rfl) ?_
                  refine Rg.iceqI 113 103 F_Mo_clash_100 rfl rfl (by omega) (by omega) (fun h100 => ?_) (fun h100 => ?_)
                  · refine Rg.step 114 F_Mo_clash_113 rfl (fun _ => rfl) ?_
                    exact Rg.ret0 F_Mo_clash_114 rfl (fun w => w.elim (fun z => h33 z.2) (fun w2 => w2.elim (fun z => h49 z.2) (fun z => z.2.2.elim (fun y => h67 y.1) (fun y => absurd y.2 (by omega))))) rfl
                  · refine Rg.step 105 F_Mo_clash_103 rfl (fun _ => rfl) ?_
                    refine Rg.step 106 F_Mo_clash_105 rfl (fun _ => rfl) ?_
                    refine Rg.iceqI 113 109 F_Mo_clash_106 rfl rfl (by omega) (by omega) (fun h106 => ?_) (fun h106 => ?_)
                    · refine Rg.step 114 F_Mo_clash_113 rfl (fun _ => rfl) ?_
                      exact Rg.ret0 F_Mo_clash_114 rfl (fun w => w.elim (fun z => h33 z.2) (fun w2 => w2.elim (fun z => h49 z.2) (fun z => z.2.2.elim (fun y => h67 y.1) (fun y => absurd y.2 (by omega))))) rfl
                    · refine Rg.step 110 F_Mo_clash_109 rfl (fun _ => rfl) ?_
                      refine Rg.step 114 F_Mo_clash_110 rfl (fun _ => rfl) ?_
                      exact Rg.ret1 F_Mo_clash_114 rfl (Or.inr (Or.inr ⟨by omega, by omega, Or.inr ⟨h67, by omega⟩⟩)) rfl
                · refine Rg.step 93 F_Mo_clash_91 rfl (fun _ => rfl) ?_
                  refine Rg.step 94 F_Mo_clash_93 rfl (fun _ => rfl) ?_
                  refine Rg.icneI 109 97 F_Mo_clash_94 rfl rfl (by omega) (by omega) (fun h94 => ?_) (fun h94 => ?_)
                  · refine Rg.step 110 F_Mo_clash_109 rfl (fun _ => rfl) ?_
                    refine Rg.step 114 F_Mo_clash_110 rfl (fun _ => rfl) ?_
                    exact Rg.ret1 F_Mo_clash_114 rfl (Or.inr (Or.inr ⟨by omega, by omega, Or.inr ⟨h67, by omega⟩⟩)) rfl
                  · refine Rg.step 99 F_Mo_clash_97 rfl (fun _ => rfl) ?_
                    refine Rg.step 100 F_Mo_clash_99 rfl (fun _ => rfl) ?_
                    refine Rg.iceqI 113 103 F_Mo_clash_100 rfl rfl (by omega) (by omega) (fun h100 => ?_) (fun h100 => ?_)
                    · refine Rg.step 114 F_Mo_clash_113 rfl (fun _ => rfl) ?_
                      exact Rg.ret0 F_Mo_clash_114 rfl (fun w => w.elim (fun z => h33 z.2) (fun w2 => w2.elim (fun z => h49 z.2) (fun z => z.2.2.elim (fun y => h67 y.1) (fun y => absurd y.2 (by omega))))) rfl
                    · refine Rg.step 105 F_Mo_clash_103 rfl (fun _ => rfl) ?_
                      refine Rg.step 106 F_Mo_clash_105 rfl (fun _ => rfl) ?_
                      refine Rg.iceqI 113 109 F_Mo_clash_106 rfl rfl (by omega) (by omega) (fun h106 => ?_) (fun h106 => ?_)
                      · refine Rg.step 114 F_Mo_clash_113 rfl (fun _ => rfl) ?_
                        exact Rg.ret0 F_Mo_clash_114 rfl (fun w => w.elim (fun z => h33 z.2) (fun w2 => w2.elim (fun z => h49 z.2) (fun z => z.2.2.elim (fun y => h67 y.1) (fun y => absurd y.2 (by omega))))) rfl
                      · refine Rg.step 110 F_Mo_clash_109 rfl (fun _ => rfl) ?_
                        refine Rg.step 114 F_Mo_clash_110 rfl (fun _ => rfl) ?_
                        exact Rg.ret1 F_Mo_clash_114 rfl (Or.inr (Or.inr ⟨by omega, by omega, Or.inr ⟨h67, by omega⟩⟩)) rfl
              · refine Rg.step 72 F_Mo_clash_70 rfl (fun _ => rfl) ?_
                refine Rg.step 74 F_Mo_clash_72 rfl (fun _ => rfl) ?_
                refine Rg.iceqI 81 77 F_Mo_clash_74 rfl rfl (by omega) (by omega) (fun h74 => ?_) (fun h74 => ?_)
                · refine Rg.step 82 F_Mo_clash_81 rfl (fun _ => rfl) ?_
                  refine Rg.step 114 F_Mo_clash_82 rfl (fun _ => rfl) ?_
                  exact Rg.ret0 F_Mo_clash_114 rfl (fun w => w.elim (fun z => h33 z.2) (fun w2 => w2.elim (fun z => h49 z.2) (fun z => z.2.2.elim (fun y => y.2 h74) (fun y => y.1 h67)))) rfl
                · refine Rg.step 78 F_Mo_clash_77 rfl (fun _ => rfl) ?_
                  refine Rg.step 114 F_Mo_clash_78 rfl (fun _ => rfl) ?_
                  exact Rg.ret1 F_Mo_clash_114 rfl (Or.inr (Or.inr ⟨by omega, by omega, Or.inl ⟨h67, h74⟩⟩)) rfl
            · refine Rg.step 65 F_Mo_clash_64 rfl (fun _ => rfl) ?_
              exact Rg.ret0 F_Mo_clash_65 rfl (fun w => w.elim (fun z => h33 z.2) (fun w2 => w2.elim (fun z => h49 z.2) (fun z => absurd z (by omega)))) rfl
        · refine Rg.step 53 F_Mo_clash_52 rfl (fun _ => rfl) ?_
          exact Rg.ret1 F_Mo_clash_53 rfl (Or.inr (Or.inl ⟨by omega, h49⟩)) rfl
theorem interf_loop2 {d n0 : Nat} (hp : pre.length = 168) (hw : WT epsilonN epsilonD wishes wants wantN wantD actions needs needTime needOf needHow needN needD changes changeTime changeOf changeHow changeN changeD lastOf lastN lastD firstN firstD) (wT : ∀ s, 0 ≤ triedAction s ∧ triedAction s < 12) {p q : Int} (h1 : 0 ≤ p ∧ p < 24) (h3 : 0 ≤ q ∧ q < 24) {A : Prop} : ∀ (n : Nat) (k : Int), k + n = 8 → 0 ≤ k → Rg true (d + 4) m_Mo_interfere n0 43 [(4, .int (iI k)), (3, .int (bP (A ∨ (∃ n, 0 ≤ n ∧ n < k ∧ clash needs needTime needHow needOf lastOf changes changeTime changeHow changeOf (triedAction (p / 2)) (tmo p) (triedAction (q / 2)) (tmo q) False n)))), (0, .ref 168), (1, .int (iI p)), (2, .int (iI q))] [] (MR pre code amountN amountD momentN momentD epsilonN epsilonD firstFacts firstN firstD wishes wants wantN wantD actions needs needTime needOf needHow needN needD changes changeTime changeOf changeHow changeN changeD lastOf lastN lastD steps stepAction startN startD lengthN lengthD rows row tried triedAction triedRows triedRow times unit facts numN numD oldFacts oldN oldD point judged fault faultPoint toldFacts toldN toldD outN outD pointN pointD gone now leastN leastD greatestN greatestD events post) (.inl (some (.int (bP (A ∨ (∃ n, 0 ≤ n ∧ n < 8 ∧ clash needs needTime needHow needOf lastOf changes changeTime changeHow changeOf (triedAction (p / 2)) (tmo p) (triedAction (q / 2)) (tmo q) False n)))))) (MR pre code amountN amountD momentN momentD epsilonN epsilonD firstFacts firstN firstD wishes wants wantN wantD actions needs needTime needOf needHow needN needD changes changeTime changeOf changeHow changeN changeD lastOf lastN lastD steps stepAction startN startD lengthN lengthD rows row tried triedAction triedRows triedRow times unit facts numN numD oldFacts oldN oldD point judged fault faultPoint toldFacts toldN toldD outN outD pointN pointD gone now leastN leastD greatestN greatestD events post) := by
  intro n
  induction n with
  | zero =>
    intro k hk hk2
    have hk : k = 8 := by omega
    subst hk
    refine Rg.step 45 F_Mo_interfere_43 rfl (fun _ => rfl) ?_
    refine Rg.bip 47 F_Mo_interfere_45 rfl rfl ?_
    refine Rg.icgeI 78 50 F_Mo_interfere_47 rfl rfl (by omega) (by omega) (fun _ => ?_) (fun h47 => by omega)
    refine Rg.step 79 F_Mo_interfere_78 rfl (fun _ => rfl) ?_
    exact Rg.retP F_Mo_interfere_79 rfl Iff.rfl rfl
  | succ n ih =>
    intro k hk hk2
    refine Rg.step 45 F_Mo_interfere_43 rfl (fun _ => rfl) ?_
    refine Rg.bip 47 F_Mo_interfere_45 rfl rfl ?_
    refine Rg.icgeI 78 50 F_Mo_interfere_47 rfl rfl (by omega) (by omega) (fun h47 => by omega) (fun _ => ?_)
    refine Rg.step 51 F_Mo_interfere_50 rfl (fun _ => rfl) ?_
    refine Rg.ifneP 66 54 F_Mo_interfere_51 rfl rfl (fun h51 => ?_) (fun h51 => ?_)
    · refine Rg.cP1 (B := (A ∨ (∃ n, 0 ≤ n ∧ n < (k + 1) ∧ clash needs needTime needHow needOf lastOf changes changeTime changeHow changeOf (triedAction (p / 2)) (tmo p) (triedAction (q / 2)) (tmo q) False n))) 67 F_Mo_interfere_66 rfl (h51.elim Or.inl (fun z => Or.inr ((ex_succ (C := (fun f => clash needs needTime needHow needOf lastOf changes changeTime changeHow changeOf (triedAction (p / 2)) (tmo p) (triedAction (q / 2)) (tmo q) False f)) hk2).mpr (Or.inl z)))) ?_
      refine Rg.step 71 F_Mo_interfere_67 rfl (fun _ => rfl) ?_
      refine Rg.step 72 F_Mo_interfere_71 rfl (fun _ => rfl) ?_
      refine Rg.inc 75 F_Mo_interfere_72 rfl rfl (by decide) ?_
      refine Rg.step 43 F_Mo_interfere_75 rfl (fun _ => rfl) ?_
      exact Rg.weak (ih (k + 1) (by omega) (by omega)) (by simp [lput1, lput2, Value.category, fi0, fi1, fi2, fi3] <;> first | rfl | exact ⟨rfl, rfl⟩) (by simp [lput1, lput2, Value.category, fi0, fi1, fi2, fi3] <;> first | rfl | exact ⟨rfl, rfl⟩)
    · refine Rg.step 55 F_Mo_interfere_54 rfl (fun _ => rfl) ?_
      refine Rg.step 56 F_Mo_interfere_55 rfl (fun _ => rfl) ?_
      refine Rg.step 57 F_Mo_interfere_56 rfl (fun _ => rfl) ?_
      refine Rg.cP0 (B := False) 58 F_Mo_interfere_57 rfl (fun z => z) ?_
      refine Rg.step 60 F_Mo_interfere_58 rfl (fun _ => rfl) ?_
      refine Rg.call 63 F_Mo_interfere_60 rfl (one_V rM_26_260 (by decide) (by simp) rfl rfl (gM hp) rfl) (Nat.le_of_ble_eq_true rfl) (Cg.any (c_Mo_clash hp hw wT (by omega) (by omega) (by omega))) ?_
      refine Rg.ifeqP 70 66 F_Mo_interfere_63 rfl rfl (fun h63 => ?_) (fun h63 => ?_)
      · refine Rg.cP0 (B := (A ∨ (∃ n, 0 ≤ n ∧ n < (k + 1) ∧ clash needs needTime needHow needOf lastOf changes changeTime changeHow changeOf (triedAction (p / 2)) (tmo p) (triedAction (q / 2)) (tmo q) False n))) 71 F_Mo_interfere_70 rfl (fun w => w.elim (fun z => h51 (Or.inl z)) (fun z => ((ex_succ (C := (fun f => clash needs needTime needHow needOf lastOf changes changeTime changeHow changeOf (triedAction (p / 2)) (tmo p) (triedAction (q / 2)) (tmo q) False f)) hk2).mp z).elim (fun y => h51 (Or.inr y)) h63)) ?_
        refine Rg.step 72 F_Mo_interfere_71 rfl (fun _ => rfl) ?_
        refine Rg.inc 75 F_Mo_interfere_72 rfl rfl (by decide) ?_
        refine Rg.step 43 F_Mo_interfere_75 rfl (fun _ => rfl) ?_
        exact Rg.weak (ih (k + 1) (by omega) (by omega)) (by simp [lput1, lput2, Value.category, fi0, fi1, fi2, fi3] <;> first | rfl | exact ⟨rfl, rfl⟩) (by simp [lput1, lput2, Value.category, fi0, fi1, fi2, fi3] <;> first | rfl | exact ⟨rfl, rfl⟩)
      · refine Rg.cP1 (B := (A ∨ (∃ n, 0 ≤ n ∧ n < (k + 1) ∧ clash needs needTime needHow needOf lastOf changes changeTime changeHow changeOf (triedAction (p / 2)) (tmo p) (triedAction (q / 2)) (tmo q) False n))) 67 F_Mo_interfere_66 rfl (Or.inr ((ex_succ (C := (fun f => clash needs needTime needHow needOf lastOf changes changeTime changeHow changeOf (triedAction (p / 2)) (tmo p) (triedAction (q / 2)) (tmo q) False f)) hk2).mpr (Or.inr h63))) ?_
        refine Rg.step 71 F_Mo_interfere_67 rfl (fun _ => rfl) ?_
        refine Rg.step 72 F_Mo_interfere_71 rfl (fun _ => rfl) ?_
        refine Rg.inc 75 F_Mo_interfere_72 rfl rfl (by decide) ?_
        refine Rg.step 43 F_Mo_interfere_75 rfl (fun _ => rfl) ?_
        exact Rg.weak (ih (k + 1) (by omega) (by omega)) (by simp [lput1, lput2, Value.category, fi0, fi1, fi2, fi3] <;> first | rfl | exact ⟨rfl, rfl⟩) (by simp [lput1, lput2, Value.category, fi0, fi1, fi2, fi3] <;> first | rfl | exact ⟨rfl, rfl⟩)
theorem interf_loop1 {d n0 : Nat} (hp : pre.length = 168) (hw : WT epsilonN epsilonD wishes wants wantN wantD actions needs needTime needOf needHow needN needD changes changeTime changeOf changeHow changeN changeD lastOf lastN lastD firstN firstD) (wT : ∀ s, 0 ≤ triedAction s ∧ triedAction s < 12) {p q : Int} (h1 : 0 ≤ p ∧ p < 24) (h3 : 0 ≤ q ∧ q < 24) : ∀ (n : Nat) (k : Int), k + n = 16 → 0 ≤ k → Rg true (d + 4) m_Mo_interfere n0 5 [(4, .int (iI k)), (3, .int (bP (∃ f, 0 ≤ f ∧ f < k ∧ clash needs needTime needHow needOf lastOf changes changeTime changeHow changeOf (triedAction (p / 2)) (tmo p) (triedAction (q / 2)) (tmo q) True f))), (0, .ref 168), (1, .int (iI p)), (2, .int (iI q))] [] (MR pre code amountN amountD momentN momentD epsilonN epsilonD firstFacts firstN firstD wishes wants wantN wantD actions needs needTime needOf needHow needN needD changes changeTime changeOf changeHow changeN changeD lastOf lastN lastD steps stepAction startN startD lengthN lengthD rows row tried triedAction triedRows triedRow times unit facts numN numD oldFacts oldN oldD point judged fault faultPoint toldFacts toldN toldD outN outD pointN pointD gone now leastN leastD greatestN greatestD events post) (.inl (some (.int (bP (interf needs needTime needHow needOf lastOf changes changeTime changeHow changeOf (triedAction (p / 2)) (tmo p) (triedAction (q / 2)) (tmo q)))))) (MR pre code amountN amountD momentN momentD epsilonN epsilonD firstFacts firstN firstD wishes wants wantN wantD actions needs needTime needOf needHow needN needD changes changeTime changeOf changeHow changeN changeD lastOf lastN lastD steps stepAction startN startD lengthN lengthD rows row tried triedAction triedRows triedRow times unit facts numN numD oldFacts oldN oldD point judged fault faultPoint toldFacts toldN toldD outN outD pointN pointD gone now leastN leastD greatestN greatestD events post) := by
  intro n
  induction n with
  | zero =>
    intro k hk hk2
    have hk : k = 16 := by omega
    subst hk
    rw [show bP (∃ f, 0 ≤ f ∧ f < 16 ∧ clash needs needTime needHow needOf lastOf changes changeTime changeHow changeOf (triedAction (p / 2)) (tmo p) (triedAction (q / 2)) (tmo q) True f) = bP ((∃ f, 0 ≤ f ∧ f < 16 ∧ clash needs needTime needHow needOf lastOf changes changeTime changeHow changeOf (triedAction (p / 2)) (tmo p) (triedAction (q / 2)) (tmo q) True f) ∨ (∃ n, 0 ≤ n ∧ n < 0 ∧ clash needs needTime needHow needOf lastOf changes changeTime changeHow changeOf (triedAction (p / 2)) (tmo p) (triedAction (q / 2)) (tmo q) False n)) from bP_c ⟨Or.inl, fun z => z.elim id (fun y => absurd y ex_zero)⟩]
    refine Rg.step 7 F_Mo_interfere_5 rfl (fun _ => rfl) ?_
    refine Rg.bip 9 F_Mo_interfere_7 rfl rfl ?_
    refine Rg.icgeI 40 12 F_Mo_interfere_9 rfl rfl (by omega) (by omega) (fun _ => ?_) (fun h9 => by omega)
    refine Rg.step 41 F_Mo_interfere_40 rfl (fun _ => rfl) ?_
    refine Rg.step 43 F_Mo_interfere_41 rfl (fun _ => rfl) ?_
    exact Rg.weak (interf_loop2 hp hw wT h1 h3 8 0 (by omega) (by omega)) (by simp [lput1, lput2, Value.category, fi0, fi1, fi2, fi3] <;> first | rfl | exact ⟨rfl, rfl⟩) (by simp [lput1, lput2, Value.category, fi0, fi1, fi2, fi3] <;> first | rfl | exact ⟨rfl, rfl⟩)
  | succ n ih =>
    intro k hk hk2
    refine Rg.step 7 F_Mo_interfere_5 rfl (fun _ => rfl) ?_
    refine Rg.bip 9 F_Mo_interfere_7 rfl rfl ?_
    refine Rg.icgeI 40 12 F_Mo_interfere_9 rfl rfl (by omega) (by omega) (fun h9 => by omega) (fun _ => ?_)
    refine Rg.step 13 F_Mo_interfere_12 rfl (fun _ => rfl) ?_
    refine Rg.ifneP 28 16 F_Mo_interfere_13 rfl rfl (fun h13 => ?_) (fun h13 => ?_)
    · refine Rg.cP1 (B := (∃ f, 0 ≤ f ∧ f < (k + 1) ∧ clash needs needTime needHow needOf lastOf changes changeTime changeHow changeOf (triedAction (p / 2)) (tmo p) (triedAction (q / 2)) (tmo q) True f)) 29 F_Mo_interfere_28 rfl ((ex_succ (C := (fun f => clash needs needTime needHow needOf lastOf changes changeTime changeHow changeOf (triedAction (p / 2)) (tmo p) (triedAction (q / 2)) (tmo q) True f)) hk2).mpr (Or.inl h13)) ?_
      refine Rg.step 33 F_Mo_interfere_29 rfl (fun _ => rfl) ?_
      refine Rg.step 34 F_Mo_interfere_33 rfl (fun _ => rfl) ?_
      refine Rg.inc 37 F_Mo_interfere_34 rfl rfl (by decide) ?_
      refine Rg.step 5 F_Mo_interfere_37 rfl (fun _ => rfl) ?_
      exact Rg.weak (ih (k + 1) (by omega) (by omega)) (by simp [lput1, lput2, Value.category, fi0, fi1, fi2, fi3] <;> first | rfl | exact ⟨rfl, rfl⟩) (by simp [lput1, lput2, Value.category, fi0, fi1, fi2, fi3] <;> first | rfl | exact ⟨rfl, rfl⟩)
    · refine Rg.step 17 F_Mo_interfere_16 rfl (fun _ => rfl) ?_
      refine Rg.step 18 F_Mo_interfere_17 rfl (fun _ => rfl) ?_
      refine Rg.step 19 F_Mo_interfere_18 rfl (fun _ => rfl) ?_
      refine Rg.cP1 (B := True) 20 F_Mo_interfere_19 rfl trivial ?_
      refine Rg.step 22 F_Mo_interfere_20 rfl (fun _ => rfl) ?_
      refine Rg.call 25 F_Mo_interfere_22 rfl (one_V rM_26_260 (by decide) (by simp) rfl rfl (gM hp) rfl) (Nat.le_of_ble_eq_true rfl) (Cg.any (c_Mo_clash hp hw wT (by omega) (by omega) (by omega))) ?_
      refine Rg.ifeqP 32 28 F_Mo_interfere_25 rfl rfl (fun h25 => ?_) (fun h25 => ?_)
      · refine Rg.cP0 (B := (∃ f, 0 ≤ f ∧ f < (k + 1) ∧ clash needs needTime needHow needOf lastOf changes changeTime changeHow changeOf (triedAction (p / 2)) (tmo p) (triedAction (q / 2)) (tmo q) True f)) 33 F_Mo_interfere_32 rfl (fun z => ((ex_succ (C := (fun f => clash needs needTime needHow needOf lastOf changes changeTime changeHow changeOf (triedAction (p / 2)) (tmo p) (triedAction (q / 2)) (tmo q) True f)) hk2).mp z).elim h13 h25) ?_
        refine Rg.step 34 F_Mo_interfere_33 rfl (fun _ => rfl) ?_
        refine Rg.inc 37 F_Mo_interfere_34 rfl rfl (by decide) ?_
        refine Rg.step 5 F_Mo_interfere_37 rfl (fun _ => rfl) ?_
        exact Rg.weak (ih (k + 1) (by omega) (by omega)) (by simp [lput1, lput2, Value.category, fi0, fi1, fi2, fi3] <;> first | rfl | exact ⟨rfl, rfl⟩) (by simp [lput1, lput2, Value.category, fi0, fi1, fi2, fi3] <;> first | rfl | exact ⟨rfl, rfl⟩)
      · refine Rg.cP1 (B := (∃ f, 0 ≤ f ∧ f < (k + 1) ∧ clash needs needTime needHow needOf lastOf changes changeTime changeHow changeOf (triedAction (p / 2)) (tmo p) (triedAction (q / 2)) (tmo q) True f)) 29 F_Mo_interfere_28 rfl ((ex_succ (C := (fun f => clash needs needTime needHow needOf lastOf changes changeTime changeHow changeOf (triedAction (p / 2)) (tmo p) (triedAction (q / 2)) (tmo q) True f)) hk2).mpr (Or.inr h25)) ?_
        refine Rg.step 33 F_Mo_interfere_29 rfl (fun _ => rfl) ?_
        refine Rg.step 34 F_Mo_interfere_33 rfl (fun _ => rfl) ?_
        refine Rg.inc 37 F_Mo_interfere_34 rfl rfl (by decide) ?_
        refine Rg.step 5 F_Mo_interfere_37 rfl (fun _ => rfl) ?_
        exact Rg.weak (ih (k + 1) (by omega) (by omega)) (by simp [lput1, lput2, Value.category, fi0, fi1, fi2, fi3] <;> first | rfl | exact ⟨rfl, rfl⟩) (by simp [lput1, lput2, Value.category, fi0, fi1, fi2, fi3] <;> first | rfl | exact ⟨rfl, rfl⟩)
theorem c_Mo_interfere {d : Nat}  (hp : pre.length = 168) (hw : WT epsilonN epsilonD wishes wants wantN wantD actions needs needTime needOf needHow needN needD changes changeTime changeOf changeHow changeN changeD lastOf lastN lastD firstN firstD) (wT : ∀ s, 0 ≤ triedAction s ∧ triedAction s < 12) {p q : Int} (h1 : 0 ≤ p ∧ p < 24) (h3 : 0 ≤ q ∧ q < 24) : Cg true (d + 4) m_Mo_interfere [.ref 168, .int (iI p), .int (iI q)] (MR pre code amountN amountD momentN momentD epsilonN epsilonD firstFacts firstN firstD wishes wants wantN wantD actions needs needTime needOf needHow needN needD changes changeTime changeOf changeHow changeN changeD lastOf lastN lastD steps stepAction startN startD lengthN lengthD rows row tried triedAction triedRows triedRow times unit facts numN numD oldFacts oldN oldD point judged fault faultPoint toldFacts toldN toldD outN outD pointN pointD gone now leastN leastD greatestN greatestD events post) (.inl (some (.int (bP (interf needs needTime needHow needOf lastOf changes changeTime changeHow changeOf (triedAction (p / 2)) (tmo p) (triedAction (q / 2)) (tmo q)))))) (MR pre code amountN amountD momentN momentD epsilonN epsilonD firstFacts firstN firstD wishes wants wantN wantD actions needs needTime needOf needHow needN needD changes changeTime changeOf changeHow changeN changeD lastOf lastN lastD steps stepAction startN startD lengthN lengthD rows row tried triedAction triedRows triedRow times unit facts numN numD oldFacts oldN oldD point judged fault faultPoint toldFacts toldN toldD outN outD pointN pointD gone now leastN leastD greatestN greatestD events post) := by
  refine Cg.of (Nat.le_of_ble_eq_true rfl) ?_
  change Rg _ _ _ _ 0 [(0, .ref 168), (1, .int (iI p)), (2, .int (iI q))] [] _ _ _
  refine Rg.cP0 (B := (∃ f, 0 ≤ f ∧ f < 0 ∧ clash needs needTime needHow needOf lastOf changes changeTime changeHow changeOf (triedAction (p / 2)) (tmo p) (triedAction (q / 2)) (tmo q) True f)) 1 F_Mo_interfere_0 rfl (ex_zero (C := (fun f => clash needs needTime needHow needOf lastOf changes changeTime changeHow changeOf (triedAction (p / 2)) (tmo p) (triedAction (q / 2)) (tmo q) True f))) ?_
  refine Rg.step 2 F_Mo_interfere_1 rfl (fun _ => rfl) ?_
  refine Rg.step 3 F_Mo_interfere_2 rfl (fun _ => rfl) ?_
  refine Rg.step 5 F_Mo_interfere_3 rfl (fun _ => rfl) ?_
  exact Rg.weak (interf_loop1 hp hw wT h1 h3 16 0 (by omega) (by omega)) (by simp [lput1, lput2, Value.category, fi0, fi1, fi2, fi3] <;> first | rfl | exact ⟨rfl, rfl⟩) (by simp [lput1, lput2, Value.category, fi0, fi1, fi2, fi3] <;> first | rfl | exact ⟨rfl, rfl⟩)
end R45
