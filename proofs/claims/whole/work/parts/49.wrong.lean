/-! The reference: what is wrong at a point. -/
def nearP (epsilonN epsilonD : Int) (pointN pointD : Int → Int) (p q : Int) : Prop := 0 < cmpF (pointN q * epsilonD + epsilonN * pointD q) (pointD q * epsilonD) (pointN p) (pointD p)
def distP (I : Int → Int → Prop) (epsilonN epsilonD : Int) (pointN pointD : Int → Int) (m : Int) (now gone : Int → Prop) (p : Int) : Prop := ∃ q, 0 ≤ q ∧ q < m ∧ ¬ q = p ∧ (now q ∨ gone q) ∧ (now q ∨ nearP epsilonN epsilonD pointN pointD p q) ∧ I p q
def intP (triedAction needs needTime needHow needOf lastOf changes changeTime changeHow changeOf : Int → Int) (p q : Int) : Prop := interf needs needTime needHow needOf lastOf changes changeTime changeHow changeOf (triedAction (p / 2)) (tmo p) (triedAction (q / 2)) (tmo q)
def lastsOK (lastOf lastN lastD numN numD : Int → Int) (a ln ld : Int) : Prop := (¬ lastOf (2 * a + 0) = -2 → ¬ cmpF ln ld (durP numN lastOf lastN (2 * a + 0)) (durP numD lastOf lastD (2 * a + 0)) < 0) ∧ (¬ lastOf (2 * a + 1) = -2 → cmpF ln ld (durP numN lastOf lastN (2 * a + 1)) (durP numD lastOf lastD (2 * a + 1)) ≤ 0)
section R49
variable {pre post mem : AM}
variable {code amountN amountD momentN momentD epsilonN epsilonD actions steps rows tried triedRows unit point judged fault faultPoint outN outD : Int}
variable {firstN firstD wishes wants wantN wantD needs needTime needOf needHow needN needD changes changeTime changeOf changeHow changeN changeD lastOf lastN lastD stepAction startN startD lengthN lengthD row triedAction triedRow times numN numD oldN oldD toldN toldD pointN pointD leastN leastD greatestN greatestD events : Int → Int}
variable {firstFacts facts oldFacts toldFacts gone now : Int → Prop}
theorem dist_loop {d n0 : Nat} (hp : pre.length = 168) (hw : WT epsilonN epsilonD wishes wants wantN wantD actions needs needTime needOf needHow needN needD changes changeTime changeOf changeHow changeN changeD lastOf lastN lastD firstN firstD) (wT : ∀ s, 0 ≤ triedAction s ∧ triedAction s < 12) (wS : 0 ≤ steps ∧ steps ≤ 12) (wQ : ∀ p, 0 ≤ p → p < 2 * steps → 0 ≤ pointN p ∧ pointN p ≤ 100000000000 ∧ 0 < pointD p ∧ pointD p ≤ 1000000) {p : Int} (h1 : 0 ≤ p ∧ p < 2 * steps) : ∀ (n : Nat) (k x y : Int), k + n = 2 * steps → 0 ≤ k → ∃ x1 y1, Rg false (d + 5) m_Mo_isDisturbed n0 2 [(2, .int (iI k)), (0, .ref 168), (1, .int (iI p))] [] (MR pre code amountN amountD momentN momentD epsilonN epsilonD firstFacts firstN firstD wishes wants wantN wantD actions needs needTime needOf needHow needN needD changes changeTime changeOf changeHow changeN changeD lastOf lastN lastD steps stepAction startN startD lengthN lengthD rows row tried triedAction triedRows triedRow times unit facts numN numD oldFacts oldN oldD point judged fault faultPoint toldFacts toldN toldD x y pointN pointD gone now leastN leastD greatestN greatestD events post) (.inl (some (.int (bP (∃ q, k ≤ q ∧ q < 2 * steps ∧ ¬ q = p ∧ (now q ∨ gone q) ∧ (now q ∨ nearP epsilonN epsilonD pointN pointD p q) ∧ (intP triedAction needs needTime needHow needOf lastOf changes changeTime changeHow changeOf) p q))))) (MR pre code amountN amountD momentN momentD epsilonN epsilonD firstFacts firstN firstD wishes wants wantN wantD actions needs needTime needOf needHow needN needD changes changeTime changeOf changeHow changeN changeD lastOf lastN lastD steps stepAction startN startD lengthN lengthD rows row tried triedAction triedRows triedRow times unit facts numN numD oldFacts oldN oldD point judged fault faultPoint toldFacts toldN toldD x1 y1 pointN pointD gone now leastN leastD greatestN greatestD events post) := by
  intro n
  obtain ⟨wE, -, -, -, -, -, -, -, -, -, -, -, -, -, -, -, -, -, -, -, -⟩ := id hw
  have q1 := wQ p h1.1 h1.2
  induction n with
  | zero =>
    intro k x y hk hk2
    refine ⟨x, y, ?_⟩
    refine Rg.step 3 F_Mo_isDisturbed_2 rfl (fun _ => rfl) ?_
    refine Rg.step 4 F_Mo_isDisturbed_3 rfl (fun _ => rfl) ?_
    refine Rg.step 5 F_Mo_isDisturbed_4 rfl (fun _ => rfl) ?_
    refine Rg.getf 8 F_Mo_isDisturbed_5 rfl rF_26_242 (gM hp) rfl ?_
    refine Rg.mulI 9 F_Mo_isDisturbed_8 rfl ?_
    refine Rg.icgeI 138 12 F_Mo_isDisturbed_9 rfl rfl (by omega) (by omega) (fun _ => ?_) (fun h9 => by omega)
    refine Rg.step 139 F_Mo_isDisturbed_138 rfl (fun _ => rfl) ?_
    exact Rg.ret0 F_Mo_isDisturbed_139 rfl (fun ⟨q, z1, z2, _⟩ => by omega) rfl
  | succ n ih =>
    intro k x y hk hk2
    have q2 := wQ k hk2 (by omega)
    have skip : ¬ (¬ k = p ∧ (now k ∨ gone k) ∧ (now k ∨ nearP epsilonN epsilonD pointN pointD p k) ∧ (intP triedAction needs needTime needHow needOf lastOf changes changeTime changeHow changeOf) p k) → ((∃ q, k ≤ q ∧ q < 2 * steps ∧ ¬ q = p ∧ (now q ∨ gone q) ∧ (now q ∨ nearP epsilonN epsilonD pointN pointD p q) ∧ (intP triedAction needs needTime needHow needOf lastOf changes changeTime changeHow changeOf) p q) ↔ (∃ q, (k + 1) ≤ q ∧ q < 2 * steps ∧ ¬ q = p ∧ (now q ∨ gone q) ∧ (now q ∨ nearP epsilonN epsilonD pointN pointD p q) ∧ (intP triedAction needs needTime needHow needOf lastOf changes changeTime changeHow changeOf) p q)) := by
      intro hn
      constructor
      · rintro ⟨q, z1, z2, z3⟩
        by_cases hq : q = k
        · exact absurd (hq ▸ z3) hn
        · exact ⟨q, by omega, z2, z3⟩
      · rintro ⟨q, z1, z2, z3⟩
        exact ⟨q, by omega, z2, z3⟩
    by_cases hA : k = p
    · obtain ⟨x1, y1, hg⟩ := ih (k + 1) x y (by omega) (by omega)
      rw [← propext (skip (fun z => z.1 hA))] at hg
      refine ⟨x1, y1, ?_⟩
      refine Rg.step 3 F_Mo_isDisturbed_2 rfl (fun _ => rfl) ?_
      refine Rg.step 4 F_Mo_isDisturbed_3 rfl (fun _ => rfl) ?_
      refine Rg.step 5 F_Mo_isDisturbed_4 rfl (fun _ => rfl) ?_
      refine Rg.getf 8 F_Mo_isDisturbed_5 rfl rF_26_242 (gM hp) rfl ?_
      refine Rg.mulI 9 F_Mo_isDisturbed_8 rfl ?_
      refine Rg.icgeI 138 12 F_Mo_isDisturbed_9 rfl rfl (by omega) (by omega) (fun h9 => by omega) (fun _ => ?_)
      refine Rg.step 13 F_Mo_isDisturbed_12 rfl (fun _ => rfl) ?_
      refine Rg.step 14 F_Mo_isDisturbed_13 rfl (fun _ => rfl) ?_
      refine Rg.iceqI 132 17 F_Mo_isDisturbed_14 rfl rfl (by omega) (by omega) (fun _ => ?_) (fun h14 => by omega)
      refine Rg.inc 135 F_Mo_isDisturbed_132 rfl rfl (by decide) ?_
      refine Rg.step 2 F_Mo_isDisturbed_135 rfl (fun _ => rfl) ?_
      exact Rg.weak hg (by simp [lput1, lput2, Value.category, fi0, fi1, fi2, fi3] <;> first | rfl | exact ⟨rfl, rfl⟩) (by simp [lput1, lput2, Value.category, fi0, fi1, fi2, fi3] <;> first | rfl | exact ⟨rfl, rfl⟩)
    · by_cases hB : now k ∨ gone k
      · have m1 := mul_bd (a := pointN k) (b := epsilonD) (A := 100000000000) (B := 1000) (by omega) (by omega)
        have m2 := mul_bd (a := epsilonN) (b := pointD k) (A := 100000) (B := 1000000) (by omega) (by omega)
        have m3 := mul_ps (a := pointD k) (b := epsilonD) (A := 1000000) (B := 1000) (by omega) (by omega)
        have m4 := nN_bd (n := pointN k * epsilonD + epsilonN * pointD k) (B := 200000000000000) m3.1 (by omega)
        have m5 := nD_pos (n := pointN k * epsilonD + epsilonN * pointD k) m3.1
        have m6 := cmpF_b (nN (pointN k * epsilonD + epsilonN * pointD k) (pointD k * epsilonD)) (nD (pointN k * epsilonD + epsilonN * pointD k) (pointD k * epsilonD)) (pointN p) (pointD p)
        have m7 : 0 < cmpF (nN (pointN k * epsilonD + epsilonN * pointD k) (pointD k * epsilonD)) (nD (pointN k * epsilonD + epsilonN * pointD k) (pointD k * epsilonD)) (pointN p) (pointD p) ↔ (nearP epsilonN epsilonD pointN pointD p k) := by unfold nearP; rw [cmpF_red m3.1]
        by_cases hC : (now k ∨ (nearP epsilonN epsilonD pointN pointD p k)) ∧ (intP triedAction needs needTime needHow needOf lastOf changes changeTime changeHow changeOf) p k
        · refine ⟨(nN (pointN k * epsilonD + epsilonN * pointD k) (pointD k * epsilonD)), (nD (pointN k * epsilonD + epsilonN * pointD k) (pointD k * epsilonD)), ?_⟩
          refine Rg.step 3 F_Mo_isDisturbed_2 rfl (fun _ => rfl) ?_
          refine Rg.step 4 F_Mo_isDisturbed_3 rfl (fun _ => rfl) ?_
          refine Rg.step 5 F_Mo_isDisturbed_4 rfl (fun _ => rfl) ?_
          refine Rg.getf 8 F_Mo_isDisturbed_5 rfl rF_26_242 (gM hp) rfl ?_
          refine Rg.mulI 9 F_Mo_isDisturbed_8 rfl ?_
          refine Rg.icgeI 138 12 F_Mo_isDisturbed_9 rfl rfl (by omega) (by omega) (fun h9 => by omega) (fun _ => ?_)
          refine Rg.step 13 F_Mo_isDisturbed_12 rfl (fun _ => rfl) ?_
          refine Rg.step 14 F_Mo_isDisturbed_13 rfl (fun _ => rfl) ?_
          refine Rg.iceqI 132 17 F_Mo_isDisturbed_14 rfl rfl (by omega) (by omega) (fun h14 => by omega) (fun _ => ?_)
          refine Rg.step 18 F_Mo_isDisturbed_17 rfl (fun _ => rfl) ?_
          refine Rg.getf 21 F_Mo_isDisturbed_18 rfl rF_26_160 (gM hp) rfl ?_
          refine Rg.step 22 F_Mo_isDisturbed_21 rfl (fun _ => rfl) ?_
          refine Rg.zld 23 F_Mo_isDisturbed_22 rfl (gR_now hp) (by omega) (by decide) ?_
          refine Rg.ifneP 38 26 F_Mo_isDisturbed_23 rfl rfl (fun h23 => ?_) (fun h23 => ?_)
          · refine Rg.step 39 F_Mo_isDisturbed_38 rfl (fun _ => rfl) ?_
            refine Rg.step 40 F_Mo_isDisturbed_39 rfl (fun _ => rfl) ?_
            refine Rg.getf 43 F_Mo_isDisturbed_40 rfl rF_26_151 (gM hp) rfl ?_
            refine Rg.step 44 F_Mo_isDisturbed_43 rfl (fun _ => rfl) ?_
            refine Rg.lld 45 F_Mo_isDisturbed_44 rfl (gR_pointN hp) (by omega) (by decide) ?_
            refine Rg.step 46 F_Mo_isDisturbed_45 rfl (fun _ => rfl) ?_
            refine Rg.getf 49 F_Mo_isDisturbed_46 rfl rF_26_21 (gM hp) rfl ?_
            refine Rg.mulL 50 F_Mo_isDisturbed_49 rfl ?_
            refine Rg.step 51 F_Mo_isDisturbed_50 rfl (fun _ => rfl) ?_
            refine Rg.getf 54 F_Mo_isDisturbed_51 rfl rF_26_16 (gM hp) rfl ?_
            refine Rg.step 55 F_Mo_isDisturbed_54 rfl (fun _ => rfl) ?_
            refine Rg.getf 58 F_Mo_isDisturbed_55 rfl rF_26_154 (gM hp) rfl ?_
            refine Rg.step 59 F_Mo_isDisturbed_58 rfl (fun _ => rfl) ?_
            refine Rg.lld 60 F_Mo_isDisturbed_59 rfl (gR_pointD hp) (by omega) (by decide) ?_
            refine Rg.mulL 61 F_Mo_isDisturbed_60 rfl ?_
            refine Rg.addL 62 F_Mo_isDisturbed_61 rfl ?_
            refine Rg.step 63 F_Mo_isDisturbed_62 rfl (fun _ => rfl) ?_
            refine Rg.getf 66 F_Mo_isDisturbed_63 rfl rF_26_154 (gM hp) rfl ?_
            refine Rg.step 67 F_Mo_isDisturbed_66 rfl (fun _ => rfl) ?_
            refine Rg.lld 68 F_Mo_isDisturbed_67 rfl (gR_pointD hp) (by omega) (by decide) ?_
            refine Rg.step 69 F_Mo_isDisturbed_68 rfl (fun _ => rfl) ?_
            refine Rg.getf 72 F_Mo_isDisturbed_69 rfl rF_26_21 (gM hp) rfl ?_
            refine Rg.mulL 73 F_Mo_isDisturbed_72 rfl ?_
            refine Rg.call 76 F_Mo_isDisturbed_73 rfl (one_V rM_26_208 (by decide) (by simp) rfl rfl (gM hp) rfl) (Nat.le_of_ble_eq_true rfl) (c_Mo_out hp (by omega) (by omega) (by omega)) ?_
            refine Rg.step 77 F_Mo_isDisturbed_76 rfl (fun _ => rfl) ?_
            refine Rg.getf 80 F_Mo_isDisturbed_77 rfl rF_26_160 (gM hp) rfl ?_
            refine Rg.step 81 F_Mo_isDisturbed_80 rfl (fun _ => rfl) ?_
            refine Rg.zld 82 F_Mo_isDisturbed_81 rfl (gR_now hp) (by omega) (by decide) ?_
            refine Rg.ifneP 111 85 F_Mo_isDisturbed_82 rfl rfl (fun h82 => ?_) (fun h82 => ?_)
            · refine Rg.cP1 (B := (now k ∨ (nearP epsilonN epsilonD pointN pointD p k))) 112 F_Mo_isDisturbed_111 rfl (Or.inl h82) ?_
              refine Rg.step 116 F_Mo_isDisturbed_112 rfl (fun _ => rfl) ?_
              refine Rg.step 117 F_Mo_isDisturbed_116 rfl (fun _ => rfl) ?_
              refine Rg.step 118 F_Mo_isDisturbed_117 rfl (fun _ => rfl) ?_
              refine Rg.ifeqP 132 121 F_Mo_isDisturbed_118 rfl rfl (fun h118 => absurd hC.1 h118) (fun _ => ?_)
              refine Rg.step 122 F_Mo_isDisturbed_121 rfl (fun _ => rfl) ?_
              refine Rg.step 123 F_Mo_isDisturbed_122 rfl (fun _ => rfl) ?_
              refine Rg.step 124 F_Mo_isDisturbed_123 rfl (fun _ => rfl) ?_
              refine Rg.call 127 F_Mo_isDisturbed_124 rfl (one_V rM_26_290 (by decide) (by simp) rfl rfl (gM hp) rfl) (Nat.le_of_ble_eq_true rfl) (Cg.any (c_Mo_interfere hp hw wT (by omega) (by omega))) ?_
              refine Rg.ifeqP 132 130 F_Mo_isDisturbed_127 rfl rfl (fun h127 => absurd hC.2 h127) (fun _ => ?_)
              refine Rg.step 131 F_Mo_isDisturbed_130 rfl (fun _ => rfl) ?_
              exact Rg.ret1 F_Mo_isDisturbed_131 rfl ⟨k, by omega, by omega, hA, hB, hC.1, hC.2⟩ rfl
            · refine Rg.step 86 F_Mo_isDisturbed_85 rfl (fun _ => rfl) ?_
              refine Rg.getf 89 F_Mo_isDisturbed_86 rfl rF_26_189 (gM hp) rfl ?_
              refine Rg.step 90 F_Mo_isDisturbed_89 rfl (fun _ => rfl) ?_
              refine Rg.getf 93 F_Mo_isDisturbed_90 rfl rF_26_192 (gM hp) rfl ?_
              refine Rg.step 94 F_Mo_isDisturbed_93 rfl (fun _ => rfl) ?_
              refine Rg.getf 97 F_Mo_isDisturbed_94 rfl rF_26_151 (gM hp) rfl ?_
              refine Rg.step 98 F_Mo_isDisturbed_97 rfl (fun _ => rfl) ?_
              refine Rg.lld 99 F_Mo_isDisturbed_98 rfl (gR_pointN hp) (by omega) (by decide) ?_
              refine Rg.step 100 F_Mo_isDisturbed_99 rfl (fun _ => rfl) ?_
              refine Rg.getf 103 F_Mo_isDisturbed_100 rfl rF_26_154 (gM hp) rfl ?_
              refine Rg.step 104 F_Mo_isDisturbed_103 rfl (fun _ => rfl) ?_
              refine Rg.lld 105 F_Mo_isDisturbed_104 rfl (gR_pointD hp) (by omega) (by decide) ?_
              refine Rg.call 108 F_Mo_isDisturbed_105 rfl (one_S (by decide +kernel) rM_26_264 (by decide) (by simp) rfl rfl) (Nat.le_of_ble_eq_true rfl) (Cg.any (c_Mo_order (by omega) (by omega) (by omega) (by omega) (by omega) (by omega))) ?_
              refine Rg.ifleI 115 111 F_Mo_isDisturbed_108 rfl rfl (by omega) (fun h108 => ?_) (fun h108 => ?_)
              · refine Rg.cP0 (B := (now k ∨ (nearP epsilonN epsilonD pointN pointD p k))) 116 F_Mo_isDisturbed_115 rfl (fun z => z.elim h82 (fun w => absurd (m7.mpr w) (by omega))) ?_
                refine Rg.step 117 F_Mo_isDisturbed_116 rfl (fun _ => rfl) ?_
                refine Rg.step 118 F_Mo_isDisturbed_117 rfl (fun _ => rfl) ?_
                refine Rg.ifeqP 132 121 F_Mo_isDisturbed_118 rfl rfl (fun h118 => absurd hC.1 h118) (fun _ => ?_)
                refine Rg.step 122 F_Mo_isDisturbed_121 rfl (fun _ => rfl) ?_
                refine Rg.step 123 F_Mo_isDisturbed_122 rfl (fun _ => rfl) ?_
                refine Rg.step 124 F_Mo_isDisturbed_123 rfl (fun _ => rfl) ?_
                refine Rg.call 127 F_Mo_isDisturbed_124 rfl (one_V rM_26_290 (by decide) (by simp) rfl rfl (gM hp) rfl) (Nat.le_of_ble_eq_true rfl) (Cg.any (c_Mo_interfere hp hw wT (by omega) (by omega))) ?_
                refine Rg.ifeqP 132 130 F_Mo_isDisturbed_127 rfl rfl (fun h127 => absurd hC.2 h127) (fun _ => ?_)
                refine Rg.step 131 F_Mo_isDisturbed_130 rfl (fun _ => rfl) ?_
                exact Rg.ret1 F_Mo_isDisturbed_131 rfl ⟨k, by omega, by omega, hA, hB, hC.1, hC.2⟩ rfl
              · refine Rg.cP1 (B := (now k ∨ (nearP epsilonN epsilonD pointN pointD p k))) 112 F_Mo_isDisturbed_111 rfl (Or.inr (m7.mp (by omega))) ?_
                refine Rg.step 116 F_Mo_isDisturbed_112 rfl (fun _ => rfl) ?_
                refine Rg.step 117 F_Mo_isDisturbed_116 rfl (fun _ => rfl) ?_
                refine Rg.step 118 F_Mo_isDisturbed_117 rfl (fun _ => rfl) ?_
                refine Rg.ifeqP 132 121 F_Mo_isDisturbed_118 rfl rfl (fun h118 => absurd hC.1 h118) (fun _ => ?_)
                refine Rg.step 122 F_Mo_isDisturbed_121 rfl (fun _ => rfl) ?_
                refine Rg.step 123 F_Mo_isDisturbed_122 rfl (fun _ => rfl) ?_
                refine Rg.step 124 F_Mo_isDisturbed_123 rfl (fun _ => rfl) ?_
                refine Rg.call 127 F_Mo_isDisturbed_124 rfl (one_V rM_26_290 (by decide) (by simp) rfl rfl (gM hp) rfl) (Nat.le_of_ble_eq_true rfl) (Cg.any (c_Mo_interfere hp hw wT (by omega) (by omega))) ?_
                refine Rg.ifeqP 132 130 F_Mo_isDisturbed_127 rfl rfl (fun h127 => absurd hC.2 h127) (fun _ => ?_)
                refine Rg.step 131 F_Mo_isDisturbed_130 rfl (fun _ => rfl) ?_
                exact Rg.ret1 F_Mo_isDisturbed_131 rfl ⟨k, by omega, by omega, hA, hB, hC.1, hC.2⟩ rfl
          · refine Rg.step 27 F_Mo_isDisturbed_26 rfl (fun _ => rfl) ?_
            refine Rg.getf 30 F_Mo_isDisturbed_27 rfl rF_26_157 (gM hp) rfl ?_
            refine Rg.step 31 F_Mo_isDisturbed_30 rfl (fun _ => rfl) ?_
            refine Rg.zld 32 F_Mo_isDisturbed_31 rfl (gR_gone hp) (by omega) (by decide) ?_
            refine Rg.ifneP 38 35 F_Mo_isDisturbed_32 rfl rfl (fun h32 => ?_) (fun h32 => ?_)
            · refine Rg.step 39 F_Mo_isDisturbed_38 rfl (fun _ => rfl) ?_
              refine Rg.step 40 F_Mo_isDisturbed_39 rfl (fun _ => rfl) ?_
              refine Rg.getf 43 F_Mo_isDisturbed_40 rfl rF_26_151 (gM hp) rfl ?_
              refine Rg.step 44 F_Mo_isDisturbed_43 rfl (fun _ => rfl) ?_
              refine Rg.lld 45 F_Mo_isDisturbed_44 rfl (gR_pointN hp) (by omega) (by decide) ?_
              refine Rg.step 46 F_Mo_isDisturbed_45 rfl (fun _ => rfl) ?_
              refine Rg.getf 49 F_Mo_isDisturbed_46 rfl rF_26_21 (gM hp) rfl ?_
              refine Rg.mulL 50 F_Mo_isDisturbed_49 rfl ?_
              refine Rg.step 51 F_Mo_isDisturbed_50 rfl (fun _ => rfl) ?_
              refine Rg.getf 54 F_Mo_isDisturbed_51 rfl rF_26_16 (gM hp) rfl ?_
              refine Rg.step 55 F_Mo_isDisturbed_54 rfl (fun _ => rfl) ?_
              refine Rg.getf 58 F_Mo_isDisturbed_55 rfl rF_26_154 (gM hp) rfl ?_
              refine Rg.step 59 F_Mo_isDisturbed_58 rfl (fun _ => rfl) ?_
              refine Rg.lld 60 F_Mo_isDisturbed_59 rfl (gR_pointD hp) (by omega) (by decide) ?_
              refine Rg.mulL 61 F_Mo_isDisturbed_60 rfl ?_
              refine Rg.addL 62 F_Mo_isDisturbed_61 rfl ?_
              refine Rg.step 63 F_Mo_isDisturbed_62 rfl (fun _ => rfl) ?_
              refine Rg.getf 66 F_Mo_isDisturbed_63 rfl rF_26_154 (gM hp) rfl ?_
              refine Rg.step 67 F_Mo_isDisturbed_66 rfl (fun _ => rfl) ?_
              refine Rg.lld 68 F_Mo_isDisturbed_67 rfl (gR_pointD hp) (by omega) (by decide) ?_
              refine Rg.step 69 F_Mo_isDisturbed_68 rfl (fun _ => rfl) ?_
              refine Rg.getf 72 F_Mo_isDisturbed_69 rfl rF_26_21 (gM hp) rfl ?_
              refine Rg.mulL 73 F_Mo_isDisturbed_72 rfl ?_
              refine Rg.call 76 F_Mo_isDisturbed_73 rfl (one_V rM_26_208 (by decide) (by simp) rfl rfl (gM hp) rfl) (Nat.le_of_ble_eq_true rfl) (c_Mo_out hp (by omega) (by omega) (by omega)) ?_
              refine Rg.step 77 F_Mo_isDisturbed_76 rfl (fun _ => rfl) ?_
              refine Rg.getf 80 F_Mo_isDisturbed_77 rfl rF_26_160 (gM hp) rfl ?_
              refine Rg.step 81 F_Mo_isDisturbed_80 rfl (fun _ => rfl) ?_
              refine Rg.zld 82 F_Mo_isDisturbed_81 rfl (gR_now hp) (by omega) (by decide) ?_
              refine Rg.ifneP 111 85 F_Mo_isDisturbed_82 rfl rfl (fun h82 => ?_) (fun h82 => ?_)
              · refine Rg.cP1 (B := (now k ∨ (nearP epsilonN epsilonD pointN pointD p k))) 112 F_Mo_isDisturbed_111 rfl (Or.inl h82) ?_
                refine Rg.step 116 F_Mo_isDisturbed_112 rfl (fun _ => rfl) ?_
                refine Rg.step 117 F_Mo_isDisturbed_116 rfl (fun _ => rfl) ?_
                refine Rg.step 118 F_Mo_isDisturbed_117 rfl (fun _ => rfl) ?_
                refine Rg.ifeqP 132 121 F_Mo_isDisturbed_118 rfl rfl (fun h118 => absurd hC.1 h118) (fun _ => ?_)
                refine Rg.step 122 F_Mo_isDisturbed_121 rfl (fun _ => rfl) ?_
                refine Rg.step 123 F_Mo_isDisturbed_122 rfl (fun _ => rfl) ?_
                refine Rg.step 124 F_Mo_isDisturbed_123 rfl (fun _ => rfl) ?_
                refine Rg.call 127 F_Mo_isDisturbed_124 rfl (one_V rM_26_290 (by decide) (by simp) rfl rfl (gM hp) rfl) (Nat.le_of_ble_eq_true rfl) (Cg.any (c_Mo_interfere hp hw wT (by omega) (by omega))) ?_
                refine Rg.ifeqP 132 130 F_Mo_isDisturbed_127 rfl rfl (fun h127 => absurd hC.2 h127) (fun _ => ?_)
                refine Rg.step 131 F_Mo_isDisturbed_130 rfl (fun _ => rfl) ?_
                exact Rg.ret1 F_Mo_isDisturbed_131 rfl ⟨k, by omega, by omega, hA, hB, hC.1, hC.2⟩ rfl
              · refine Rg.step 86 F_Mo_isDisturbed_85 rfl (fun _ => rfl) ?_
                refine Rg.getf 89 F_Mo_isDisturbed_86 rfl rF_26_189 (gM hp) rfl ?_
                refine Rg.step 90 F_Mo_isDisturbed_89 rfl (fun _ => rfl) ?_
                refine Rg.getf 93 F_Mo_isDisturbed_90 rfl rF_26_192 (gM hp) rfl ?_
                refine Rg.step 94 F_Mo_isDisturbed_93 rfl (fun _ => rfl) ?_
                refine Rg.getf 97 F_Mo_isDisturbed_94 rfl rF_26_151 (gM hp) rfl ?_
                refine Rg.step 98 F_Mo_isDisturbed_97 rfl (fun _ => rfl) ?_
                refine Rg.lld 99 F_Mo_isDisturbed_98 rfl (gR_pointN hp) (by omega) (by decide) ?_
                refine Rg.step 100 F_Mo_isDisturbed_99 rfl (fun _ => rfl) ?_
                refine Rg.getf 103 F_Mo_isDisturbed_100 rfl rF_26_154 (gM hp) rfl ?_
                refine Rg.step 104 F_Mo_isDisturbed_103 rfl (fun _ => rfl) ?_
                refine Rg.lld 105 F_Mo_isDisturbed_104 rfl (gR_pointD hp) (by omega) (by decide) ?_
                refine Rg.call 108 F_Mo_isDisturbed_105 rfl (one_S (by decide +kernel) rM_26_264 (by decide) (by simp) rfl rfl) (Nat.le_of_ble_eq_true rfl) (Cg.any (c_Mo_order (by omega) (by omega) (by omega) (by omega) (by omega) (by omega))) ?_
                refine Rg.ifleI 115 111 F_Mo_isDisturbed_108 rfl rfl (by omega) (fun h108 => ?_) (fun h108 => ?_)
                · refine Rg.cP0 (B := (now k ∨ (nearP epsilonN epsilonD pointN pointD p k))) 116 F_Mo_isDisturbed_115 rfl (fun z => z.elim h82 (fun w => absurd (m7.mpr w) (by omega))) ?_
                  refine Rg.step 117 F_Mo_isDisturbed_116 rfl (fun _ => rfl) ?_
                  refine Rg.step 118 F_Mo_isDisturbed_117 rfl (fun _ => rfl) ?_
                  refine Rg.ifeqP 132 121 F_Mo_isDisturbed_118 rfl rfl (fun h118 => absurd hC.1 h118) (fun _ => ?_)
                  refine Rg.step 122 F_Mo_isDisturbed_121 rfl (fun _ => rfl) ?_
                  refine Rg.step 123 F_Mo_isDisturbed_122 rfl (fun _ => rfl) ?_
                  refine Rg.step 124 F_Mo_isDisturbed_123 rfl (fun _ => rfl) ?_
                  refine Rg.call 127 F_Mo_isDisturbed_124 rfl (one_V rM_26_290 (by decide) (by simp) rfl rfl (gM hp) rfl) (Nat.le_of_ble_eq_true rfl) (Cg.any (c_Mo_interfere hp hw wT (by omega) (by omega))) ?_
                  refine Rg.ifeqP 132 130 F_Mo_isDisturbed_127 rfl rfl (fun h127 => absurd hC.2 h127) (fun _ => ?_)
                  refine Rg.step 131 F_Mo_isDisturbed_130 rfl (fun _ => rfl) ?_
                  exact Rg.ret1 F_Mo_isDisturbed_131 rfl ⟨k, by omega, by omega, hA, hB, hC.1, hC.2⟩ rfl
                · refine Rg.cP1 (B := (now k ∨ (nearP epsilonN epsilonD pointN pointD p k))) 112 F_Mo_isDisturbed_111 rfl (Or.inr (m7.mp (by omega))) ?_
                  refine Rg.step 116 F_Mo_isDisturbed_112 rfl (fun _ => rfl) ?_
                  refine Rg.step 117 F_Mo_isDisturbed_116 rfl (fun _ => rfl) ?_
                  refine Rg.step 118 F_Mo_isDisturbed_117 rfl (fun _ => rfl) ?_
                  refine Rg.ifeqP 132 121 F_Mo_isDisturbed_118 rfl rfl (fun h118 => absurd hC.1 h118) (fun _ => ?_)
                  refine Rg.step 122 F_Mo_isDisturbed_121 rfl (fun _ => rfl) ?_
                  refine Rg.step 123 F_Mo_isDisturbed_122 rfl (fun _ => rfl) ?_
                  refine Rg.step 124 F_Mo_isDisturbed_123 rfl (fun _ => rfl) ?_
                  refine Rg.call 127 F_Mo_isDisturbed_124 rfl (one_V rM_26_290 (by decide) (by simp) rfl rfl (gM hp) rfl) (Nat.le_of_ble_eq_true rfl) (Cg.any (c_Mo_interfere hp hw wT (by omega) (by omega))) ?_
                  refine Rg.ifeqP 132 130 F_Mo_isDisturbed_127 rfl rfl (fun h127 => absurd hC.2 h127) (fun _ => ?_)
                  refine Rg.step 131 F_Mo_isDisturbed_130 rfl (fun _ => rfl) ?_
                  exact Rg.ret1 F_Mo_isDisturbed_131 rfl ⟨k, by omega, by omega, hA, hB, hC.1, hC.2⟩ rfl
            · exact absurd hB (fun z => z.elim h23 h32)
        · obtain ⟨x1, y1, hg⟩ := ih (k + 1) (nN (pointN k * epsilonD + epsilonN * pointD k) (pointD k * epsilonD)) (nD (pointN k * epsilonD + epsilonN * pointD k) (pointD k * epsilonD)) (by omega) (by omega)
          rw [← propext (skip (fun z => hC z.2.2))] at hg
          refine ⟨x1, y1, ?_⟩
          refine Rg.step 3 F_Mo_isDisturbed_2 rfl (fun _ => rfl) ?_
          refine Rg.step 4 F_Mo_isDisturbed_3 rfl (fun _ => rfl) ?_
          refine Rg.step 5 F_Mo_isDisturbed_4 rfl (fun _ => rfl) ?_
          refine Rg.getf 8 F_Mo_isDisturbed_5 rfl rF_26_242 (gM hp) rfl ?_
          refine Rg.mulI 9 F_Mo_isDisturbed_8 rfl ?_
          refine Rg.icgeI 138 12 F_Mo_isDisturbed_9 rfl rfl (by omega) (by omega) (fun h9 => by omega) (fun _ => ?_)
          refine Rg.step 13 F_Mo_isDisturbed_12 rfl (fun _ => rfl) ?_
          refine Rg.step 14 F_Mo_isDisturbed_13 rfl (fun _ => rfl) ?_
          refine Rg.iceqI 132 17 F_Mo_isDisturbed_14 rfl rfl (by omega) (by omega) (fun h14 => by omega) (fun _ => ?_)
          refine Rg.step 18 F_Mo_isDisturbed_17 rfl (fun _ => rfl) ?_
          refine Rg.getf 21 F_Mo_isDisturbed_18 rfl rF_26_160 (gM hp) rfl ?_
          refine Rg.step 22 F_Mo_isDisturbed_21 rfl (fun _ => rfl) ?_
          refine Rg.zld 23 F_Mo_isDisturbed_22 rfl (gR_now hp) (by omega) (by decide) ?_
          refine Rg.ifneP 38 26 F_Mo_isDisturbed_23 rfl rfl (fun h23 => ?_) (fun h23 => ?_)
          · refine Rg.step 39 F_Mo_isDisturbed_38 rfl (fun _ => rfl) ?_
            refine Rg.step 40 F_Mo_isDisturbed_39 rfl (fun _ => rfl) ?_
            refine Rg.getf 43 F_Mo_isDisturbed_40 rfl rF_26_151 (gM hp) rfl ?_
            refine Rg.step 44 F_Mo_isDisturbed_43 rfl (fun _ => rfl) ?_
            refine Rg.lld 45 F_Mo_isDisturbed_44 rfl (gR_pointN hp) (by omega) (by decide) ?_
            refine Rg.step 46 F_Mo_isDisturbed_45 rfl (fun _ => rfl) ?_
            refine Rg.getf 49 F_Mo_isDisturbed_46 rfl rF_26_21 (gM hp) rfl ?_
            refine Rg.mulL 50 F_Mo_isDisturbed_49 rfl ?_
            refine Rg.step 51 F_Mo_isDisturbed_50 rfl (fun _ => rfl) ?_
            refine Rg.getf 54 F_Mo_isDisturbed_51 rfl rF_26_16 (gM hp) rfl ?_
            refine Rg.step 55 F_Mo_isDisturbed_54 rfl (fun _ => rfl) ?_
            refine Rg.getf 58 F_Mo_isDisturbed_55 rfl rF_26_154 (gM hp) rfl ?_
            refine Rg.step 59 F_Mo_isDisturbed_58 rfl (fun _ => rfl) ?_
            refine Rg.lld 60 F_Mo_isDisturbed_59 rfl (gR_pointD hp) (by omega) (by decide) ?_
            refine Rg.mulL 61 F_Mo_isDisturbed_60 rfl ?_
            refine Rg.addL 62 F_Mo_isDisturbed_61 rfl ?_
            refine Rg.step 63 F_Mo_isDisturbed_62 rfl (fun _ => rfl) ?_
            refine Rg.getf 66 F_Mo_isDisturbed_63 rfl rF_26_154 (gM hp) rfl ?_
            refine Rg.step 67 F_Mo_isDisturbed_66 rfl (fun _ => rfl) ?_
            refine Rg.lld 68 F_Mo_isDisturbed_67 rfl (gR_pointD hp) (by omega) (by decide) ?_
            refine Rg.step 69 F_Mo_isDisturbed_68 rfl (fun _ => rfl) ?_
            refine Rg.getf 72 F_Mo_isDisturbed_69 rfl rF_26_21 (gM hp) rfl ?_
            refine Rg.mulL 73 F_Mo_isDisturbed_72 rfl ?_
            refine Rg.call 76 F_Mo_isDisturbed_73 rfl (one_V rM_26_208 (by decide) (by simp) rfl rfl (gM hp) rfl) (Nat.le_of_ble_eq_true rfl) (c_Mo_out hp (by omega) (by omega) (by omega)) ?_
            refine Rg.step 77 F_Mo_isDisturbed_76 rfl (fun _ => rfl) ?_
            refine Rg.getf 80 F_Mo_isDisturbed_77 rfl rF_26_160 (gM hp) rfl ?_
            refine Rg.step 81 F_Mo_isDisturbed_80 rfl (fun _ => rfl) ?_
            refine Rg.zld 82 F_Mo_isDisturbed_81 rfl (gR_now hp) (by omega) (by decide) ?_
            refine Rg.ifneP 111 85 F_Mo_isDisturbed_82 rfl rfl (fun h82 => ?_) (fun h82 => ?_)
            · refine Rg.cP1 (B := (now k ∨ (nearP epsilonN epsilonD pointN pointD p k))) 112 F_Mo_isDisturbed_111 rfl (Or.inl h82) ?_
              refine Rg.step 116 F_Mo_isDisturbed_112 rfl (fun _ => rfl) ?_
              refine Rg.step 117 F_Mo_isDisturbed_116 rfl (fun _ => rfl) ?_
              refine Rg.step 118 F_Mo_isDisturbed_117 rfl (fun _ => rfl) ?_
              refine Rg.ifeqP 132 121 F_Mo_isDisturbed_118 rfl rfl (fun h118 => ?_) (fun h118 => ?_)
              · refine Rg.inc 135 F_Mo_isDisturbed_132 rfl rfl (by decide) ?_
                refine Rg.step 2 F_Mo_isDisturbed_135 rfl (fun _ => rfl) ?_
                exact Rg.weak hg (by simp [lput1, lput2, Value.category, fi0, fi1, fi2, fi3] <;> first | rfl | exact ⟨rfl, rfl⟩) (by simp [lput1, lput2, Value.category, fi0, fi1, fi2, fi3] <;> first | rfl | exact ⟨rfl, rfl⟩)
              · refine Rg.step 122 F_Mo_isDisturbed_121 rfl (fun _ => rfl) ?_
                refine Rg.step 123 F_Mo_isDisturbed_122 rfl (fun _ => rfl) ?_
                refine Rg.step 124 F_Mo_isDisturbed_123 rfl (fun _ => rfl) ?_
                refine Rg.call 127 F_Mo_isDisturbed_124 rfl (one_V rM_26_290 (by decide) (by simp) rfl rfl (gM hp) rfl) (Nat.le_of_ble_eq_true rfl) (Cg.any (c_Mo_interfere hp hw wT (by omega) (by omega))) ?_
                refine Rg.ifeqP 132 130 F_Mo_isDisturbed_127 rfl rfl (fun h127 => ?_) (fun h127 => ?_)
                · refine Rg.inc 135 F_Mo_isDisturbed_132 rfl rfl (by decide) ?_
                  refine Rg.step 2 F_Mo_isDisturbed_135 rfl (fun _ => rfl) ?_
                  exact Rg.weak hg (by simp [lput1, lput2, Value.category, fi0, fi1, fi2, fi3] <;> first | rfl | exact ⟨rfl, rfl⟩) (by simp [lput1, lput2, Value.category, fi0, fi1, fi2, fi3] <;> first | rfl | exact ⟨rfl, rfl⟩)
                · refine Rg.step 131 F_Mo_isDisturbed_130 rfl (fun _ => rfl) ?_
                  exact absurd (And.intro h118 h127) hC
            · refine Rg.step 86 F_Mo_isDisturbed_85 rfl (fun _ => rfl) ?_
              refine Rg.getf 89 F_Mo_isDisturbed_86 rfl rF_26_189 (gM hp) rfl ?_
              refine Rg.step 90 F_Mo_isDisturbed_89 rfl (fun _ => rfl) ?_
              refine Rg.getf 93 F_Mo_isDisturbed_90 rfl rF_26_192 (gM hp) rfl ?_
              refine Rg.step 94 F_Mo_isDisturbed_93 rfl (fun _ => rfl) ?_
              refine Rg.getf 97 F_Mo_isDisturbed_94 rfl rF_26_151 (gM hp) rfl ?_
              refine Rg.step 98 F_Mo_isDisturbed_97 rfl (fun _ => rfl) ?_
              refine Rg.lld 99 F_Mo_isDisturbed_98 rfl (gR_pointN hp) (by omega) (by decide) ?_
              refine Rg.step 100 F_Mo_isDisturbed_99 rfl (fun _ => rfl) ?_
              refine Rg.getf 103 F_Mo_isDisturbed_100 rfl rF_26_154 (gM hp) rfl ?_
              refine Rg.step 104 F_Mo_isDisturbed_103 rfl (fun _ => rfl) ?_
              refine Rg.lld 105 F_Mo_isDisturbed_104 rfl (gR_pointD hp) (by omega) (by decide) ?_
              refine Rg.call 108 F_Mo_isDisturbed_105 rfl (one_S (by decide +kernel) rM_26_264 (by decide) (by simp) rfl rfl) (Nat.le_of_ble_eq_true rfl) (Cg.any (c_Mo_order (by omega) (by omega) (by omega) (by omega) (by omega) (by omega))) ?_
              refine Rg.ifleI 115 111 F_Mo_isDisturbed_108 rfl rfl (by omega) (fun h108 => ?_) (fun h108 => ?_)
              · refine Rg.cP0 (B := (now k ∨ (nearP epsilonN epsilonD pointN pointD p k))) 116 F_Mo_isDisturbed_115 rfl (fun z => z.elim h82 (fun w => absurd (m7.mpr w) (by omega))) ?_
                refine Rg.step 117 F_Mo_isDisturbed_116 rfl (fun _ => rfl) ?_
                refine Rg.step 118 F_Mo_isDisturbed_117 rfl (fun _ => rfl) ?_
                refine Rg.ifeqP 132 121 F_Mo_isDisturbed_118 rfl rfl (fun h118 => ?_) (fun h118 => ?_)
                · refine Rg.inc 135 F_Mo_isDisturbed_132 rfl rfl (by decide) ?_
                  refine Rg.step 2 F_Mo_isDisturbed_135 rfl (fun _ => rfl) ?_
                  exact Rg.weak hg (by simp [lput1, lput2, Value.category, fi0, fi1, fi2, fi3] <;> first | rfl | exact ⟨rfl, rfl⟩) (by simp [lput1, lput2, Value.category, fi0, fi1, fi2, fi3] <;> first | rfl | exact ⟨rfl, rfl⟩)
                · refine Rg.step 122 F_Mo_isDisturbed_121 rfl (fun _ => rfl) ?_
                  refine Rg.step 123 F_Mo_isDisturbed_122 rfl (fun _ => rfl) ?_
                  refine Rg.step 124 F_Mo_isDisturbed_123 rfl (fun _ => rfl) ?_
                  refine Rg.call 127 F_Mo_isDisturbed_124 rfl (one_V rM_26_290 (by decide) (by simp) rfl rfl (gM hp) rfl) (Nat.le_of_ble_eq_true rfl) (Cg.any (c_Mo_interfere hp hw wT (by omega) (by omega))) ?_
                  refine Rg.ifeqP 132 130 F_Mo_isDisturbed_127 rfl rfl (fun h127 => ?_) (fun h127 => ?_)
                  · refine Rg.inc 135 F_Mo_isDisturbed_132 rfl rfl (by decide) ?_
                    refine Rg.step 2 F_Mo_isDisturbed_135 rfl (fun _ => rfl) ?_
                    exact Rg.weak hg (by simp [lput1, lput2, Value.category, fi0, fi1, fi2, fi3] <;> first | rfl | exact ⟨rfl, rfl⟩) (by simp [lput1, lput2, Value.category, fi0, fi1, fi2, fi3] <;> first | rfl | exact ⟨rfl, rfl⟩)
                  · refine Rg.step 131 F_Mo_isDisturbed_130 rfl (fun _ => rfl) ?_
                    exact absurd (And.intro h118 h127) hC
              · refine Rg.cP1 (B := (now k ∨ (nearP epsilonN epsilonD pointN pointD p k))) 112 F_Mo_isDisturbed_111 rfl (Or.inr (m7.mp (by omega))) ?_
                refine Rg.step 116 F_Mo_isDisturbed_112 rfl (fun _ => rfl) ?_
                refine Rg.step 117 F_Mo_isDisturbed_116 rfl (fun _ => rfl) ?_
                refine Rg.step 118 F_Mo_isDisturbed_117 rfl (fun _ => rfl) ?_
                refine Rg.ifeqP 132 121 F_Mo_isDisturbed_118 rfl rfl (fun h118 => ?_) (fun h118 => ?_)
                · refine Rg.inc 135 F_Mo_isDisturbed_132 rfl rfl (by decide) ?_
                  refine Rg.step 2 F_Mo_isDisturbed_135 rfl (fun _ => rfl) ?_
                  exact Rg.weak hg (by simp [lput1, lput2, Value.category, fi0, fi1, fi2, fi3] <;> first | rfl | exact ⟨rfl, rfl⟩) (by simp [lput1, lput2, Value.category, fi0, fi1, fi2, fi3] <;> first | rfl | exact ⟨rfl, rfl⟩)
                · refine Rg.step 122 F_Mo_isDisturbed_121 rfl (fun _ => rfl) ?_
                  refine Rg.step 123 F_Mo_isDisturbed_122 rfl (fun _ => rfl) ?_
                  refine Rg.step 124 F_Mo_isDisturbed_123 rfl (fun _ => rfl) ?_
                  refine Rg.call 127 F_Mo_isDisturbed_124 rfl (one_V rM_26_290 (by decide) (by simp) rfl rfl (gM hp) rfl) (Nat.le_of_ble_eq_true rfl) (Cg.any (c_Mo_interfere hp hw wT (by omega) (by omega))) ?_
                  refine Rg.ifeqP 132 130 F_Mo_isDisturbed_127 rfl rfl (fun h127 => ?_) (fun h127 => ?_)
                  · refine Rg.inc 135 F_Mo_isDisturbed_132 rfl rfl (by decide) ?_
                    refine Rg.step 2 F_Mo_isDisturbed_135 rfl (fun _ => rfl) ?_
                    exact Rg.weak hg (by simp [lput1, lput2, Value.category, fi0, fi1, fi2, fi3] <;> first | rfl | exact ⟨rfl, rfl⟩) (by simp [lput1, lput2, Value.category, fi0, fi1, fi2, fi3] <;> first | rfl | exact ⟨rfl, rfl⟩)
                  · refine Rg.step 131 F_Mo_isDisturbed_130 rfl (fun _ => rfl) ?_
                    exact absurd (And.intro h118 h127) hC
          · refine Rg.step 27 F_Mo_isDisturbed_26 rfl (fun _ => rfl) ?_
            refine Rg.getf 30 F_Mo_isDisturbed_27 rfl rF_26_157 (gM hp) rfl ?_
            refine Rg.step 31 F_Mo_isDisturbed_30 rfl (fun _ => rfl) ?_
            refine Rg.zld 32 F_Mo_isDisturbed_31 rfl (gR_gone hp) (by omega) (by decide) ?_
            refine Rg.ifneP 38 35 F_Mo_isDisturbed_32 rfl rfl (fun h32 => ?_) (fun h32 => ?_)
            · refine Rg.step 39 F_Mo_isDisturbed_38 rfl (fun _ => rfl) ?_
              refine Rg.step 40 F_Mo_isDisturbed_39 rfl (fun _ => rfl) ?_
              refine Rg.getf 43 F_Mo_isDisturbed_40 rfl rF_26_151 (gM hp) rfl ?_
              refine Rg.step 44 F_Mo_isDisturbed_43 rfl (fun _ => rfl) ?_
              refine Rg.lld 45 F_Mo_isDisturbed_44 rfl (gR_pointN hp) (by omega) (by decide) ?_
              refine Rg.step 46 F_Mo_isDisturbed_45 rfl (fun _ => rfl) ?_
              refine Rg.getf 49 F_Mo_isDisturbed_46 rfl rF_26_21 (gM hp) rfl ?_
              refine Rg.mulL 50 F_Mo_isDisturbed_49 rfl ?_
              refine Rg.step 51 F_Mo_isDisturbed_50 rfl (fun _ => rfl) ?_
              refine Rg.getf 54 F_Mo_isDisturbed_51 rfl rF_26_16 (gM hp) rfl ?_
              refine Rg.step 55 F_Mo_isDisturbed_54 rfl (fun _ => rfl) ?_
              refine Rg.getf 58 F_Mo_isDisturbed_55 rfl rF_26_154 (gM hp) rfl ?_
              refine Rg.step 59 F_Mo_isDisturbed_58 rfl (fun _ => rfl) ?_
              refine Rg.lld 60 F_Mo_isDisturbed_59 rfl (gR_pointD hp) (by omega) (by decide) ?_
              refine Rg.mulL 61 F_Mo_isDisturbed_60 rfl ?_
              refine Rg.addL 62 F_Mo_isDisturbed_61 rfl ?_
              refine Rg.step 63 F_Mo_isDisturbed_62 rfl (fun _ => rfl) ?_
              refine Rg.getf 66 F_Mo_isDisturbed_63 rfl rF_26_154 (gM hp) rfl ?_
              refine Rg.step 67 F_Mo_isDisturbed_66 rfl (fun _ => rfl) ?_
              refine Rg.lld 68 F_Mo_isDisturbed_67 rfl (gR_pointD hp) (by omega) (by decide) ?_
              refine Rg.step 69 F_Mo_isDisturbed_68 rfl (fun _ => rfl) ?_
              refine Rg.getf 72 F_Mo_isDisturbed_69 rfl rF_26_21 (gM hp) rfl ?_
              refine Rg.mulL 73 F_Mo_isDisturbed_72 rfl ?_
              refine Rg.call 76 F_Mo_isDisturbed_73 rfl (one_V rM_26_208 (by decide) (by simp) rfl rfl (gM hp) rfl) (Nat.le_of_ble_eq_true rfl) (c_Mo_out hp (by omega) (by omega) (by omega)) ?_
              refine Rg.step 77 F_Mo_isDisturbed_76 rfl (fun _ => rfl) ?_
              refine Rg.getf 80 F_Mo_isDisturbed_77 rfl rF_26_160 (gM hp) rfl ?_
              refine Rg.step 81 F_Mo_isDisturbed_80 rfl (fun _ => rfl) ?_
              refine Rg.zld 82 F_Mo_isDisturbed_81 rfl (gR_now hp) (by omega) (by decide) ?_
              refine Rg.ifneP 111 85 F_Mo_isDisturbed_82 rfl rfl (fun h82 => ?_) (fun h82 => ?_)
              · refine Rg.cP1 (B := (now k ∨ (nearP epsilonN epsilonD pointN pointD p k))) 112 F_Mo_isDisturbed_111 rfl (Or.inl h82) ?_
                refine Rg.step 116 F_Mo_isDisturbed_112 rfl (fun _ => rfl) ?_
                refine Rg.step 117 F_Mo_isDisturbed_116 rfl (fun _ => rfl) ?_
                refine Rg.step 118 F_Mo_isDisturbed_117 rfl (fun _ => rfl) ?_
                refine Rg.ifeqP 132 121 F_Mo_isDisturbed_118 rfl rfl (fun h118 => ?_) (fun h118 => ?_)
                · refine Rg.inc 135 F_Mo_isDisturbed_132 rfl rfl (by decide) ?_
                  refine Rg.step 2 F_Mo_isDisturbed_135 rfl (fun _ => rfl) ?_
                  exact Rg.weak hg (by simp [lput1, lput2, Value.category, fi0, fi1, fi2, fi3] <;> first | rfl | exact ⟨rfl, rfl⟩) (by simp [lput1, lput2, Value.category, fi0, fi1, fi2, fi3] <;> first | rfl | exact ⟨rfl, rfl⟩)
                · refine Rg.step 122 F_Mo_isDisturbed_121 rfl (fun _ => rfl) ?_
                  refine Rg.step 123 F_Mo_isDisturbed_122 rfl (fun _ => rfl) ?_
                  refine Rg.step 124 F_Mo_isDisturbed_123 rfl (fun _ => rfl) ?_
                  refine Rg.call 127 F_Mo_isDisturbed_124 rfl (one_V rM_26_290 (by decide) (by simp) rfl rfl (gM hp) rfl) (Nat.le_of_ble_eq_true rfl) (Cg.any (c_Mo_interfere hp hw wT (by omega) (by omega))) ?_
                  refine Rg.ifeqP 132 130 F_Mo_isDisturbed_127 rfl rfl (fun h127 => ?_) (fun h127 => ?_)
                  · refine Rg.inc 135 F_Mo_isDisturbed_132 rfl rfl (by decide) ?_
                    refine Rg.step 2 F_Mo_isDisturbed_135 rfl (fun _ => rfl) ?_
                    exact Rg.weak hg (by simp [lput1, lput2, Value.category, fi0, fi1, fi2, fi3] <;> first | rfl | exact ⟨rfl, rfl⟩) (by simp [lput1, lput2, Value.category, fi0, fi1, fi2, fi3] <;> first | rfl | exact ⟨rfl, rfl⟩)
                  · refine Rg.step 131 F_Mo_isDisturbed_130 rfl (fun _ => rfl) ?_
                    exact absurd (And.intro h118 h127) hC
              · refine Rg.step 86 F_Mo_isDisturbed_85 rfl (fun _ => rfl) ?_
                refine Rg.getf 89 F_Mo_isDisturbed_86 rfl rF_26_189 (gM hp) rfl ?_
                refine Rg.step 90 F_Mo_isDisturbed_89 rfl (fun _ => rfl) ?_
                refine Rg.getf 93 F_Mo_isDisturbed_90 rfl rF_26_192 (gM hp) rfl ?_
                refine Rg.step 94 F_Mo_isDisturbed_93 rfl (fun _ => rfl) ?_
                refine Rg.getf 97 F_Mo_isDisturbed_94 rfl rF_26_151 (gM hp) rfl ?_
                refine Rg.step 98 F_Mo_isDisturbed_97 rfl (fun _ => rfl) ?_
                refine Rg.lld 99 F_Mo_isDisturbed_98 rfl (gR_pointN hp) (by omega) (by decide) ?_
                refine Rg.step 100 F_Mo_isDisturbed_99 rfl (fun _ => rfl) ?_
                refine Rg.getf 103 F_Mo_isDisturbed_100 rfl rF_26_154 (gM hp) rfl ?_
                refine Rg.step 104 F_Mo_isDisturbed_103 rfl (fun _ => rfl) ?_
                refine Rg.lld 105 F_Mo_isDisturbed_104 rfl (gR_pointD hp) (by omega) (by decide) ?_
                refine Rg.call 108 F_Mo_isDisturbed_105 rfl (one_S (by decide +kernel) rM_26_264 (by decide) (by simp) rfl rfl) (Nat.le_of_ble_eq_true rfl) (Cg.any (c_Mo_order (by omega) (by omega) (by omega) (by omega) (by omega) (by omega))) ?_
                refine Rg.ifleI 115 111 F_Mo_isDisturbed_108 rfl rfl (by omega) (fun h108 => ?_) (fun h108 => ?_)
                · refine Rg.cP0 (B := (now k ∨ (nearP epsilonN epsilonD pointN pointD p k))) 116 F_Mo_isDisturbed_115 rfl (fun z => z.elim h82 (fun w => absurd (m7.mpr w) (by omega))) ?_
                  refine Rg.step 117 F_Mo_isDisturbed_116 rfl (fun _ => rfl) ?_
                  refine Rg.step 118 F_Mo_isDisturbed_117 rfl (fun _ => rfl) ?_
                  refine Rg.ifeqP 132 121 F_Mo_isDisturbed_118 rfl rfl (fun h118 => ?_) (fun h118 => ?_)
                  · refine Rg.inc 135 F_Mo_isDisturbed_132 rfl rfl (by decide) ?_
                    refine Rg.step 2 F_Mo_isDisturbed_135 rfl (fun _ => rfl) ?_
                    exact Rg.weak hg (by simp [lput1, lput2, Value.category, fi0, fi1, fi2, fi3] <;> first | rfl | exact ⟨rfl, rfl⟩) (by simp [lput1, lput2, Value.category, fi0, fi1, fi2, fi3] <;> first | rfl | exact ⟨rfl, rfl⟩)
                  · refine Rg.step 122 F_Mo_isDisturbed_121 rfl (fun _ => rfl) ?_
                    refine Rg.step 123 F_Mo_isDisturbed_122 rfl (fun _ => rfl) ?_
                    refine Rg.step 124 F_Mo_isDisturbed_123 rfl (fun _ => rfl) ?_
                    refine Rg.call 127 F_Mo_isDisturbed_124 rfl (one_V rM_26_290 (by decide) (by simp) rfl rfl (gM hp) rfl) (Nat.le_of_ble_eq_true rfl) (Cg.any (c_Mo_interfere hp hw wT (by omega) (by omega))) ?_
                    refine Rg.ifeqP 132 130 F_Mo_isDisturbed_127 rfl rfl (fun h127 => ?_) (fun h127 => ?_)
                    · refine Rg.inc 135 F_Mo_isDisturbed_132 rfl rfl (by decide) ?_
                      refine Rg.step 2 F_Mo_isDisturbed_135 rfl (fun _ => rfl) ?_
                      exact Rg.weak hg (by simp [lput1, lput2, Value.category, fi0, fi1, fi2, fi3] <;> first | rfl | exact ⟨rfl, rfl⟩) (by simp [lput1, lput2, Value.category, fi0, fi1, fi2, fi3] <;> first | rfl | exact ⟨rfl, rfl⟩)
                    · refine Rg.step 131 F_Mo_isDisturbed_130 rfl (fun _ => rfl) ?_
                      exact absurd (And.intro h118 h127) hC
                · refine Rg.cP1 (B := (now k ∨ (nearP epsilonN epsilonD pointN pointD p k))) 112 F_Mo_isDisturbed_111 rfl (Or.inr (m7.mp (by omega))) ?_
                  refine Rg.step 116 F_Mo_isDisturbed_112 rfl (fun _ => rfl) ?_
                  refine Rg.step 117 F_Mo_isDisturbed_116 rfl (fun _ => rfl) ?_
                  refine Rg.step 118 F_Mo_isDisturbed_117 rfl (fun _ => rfl) ?_
                  refine Rg.ifeqP 132 121 F_Mo_isDisturbed_118 rfl rfl (fun h118 => ?_) (fun h118 => ?_)
                  · refine Rg.inc 135 F_Mo_isDisturbed_132 rfl rfl (by decide) ?_
                    refine Rg.step 2 F_Mo_isDisturbed_135 rfl (fun _ => rfl) ?_
                    exact Rg.weak hg (by simp [lput1, lput2, Value.category, fi0, fi1, fi2, fi3] <;> first | rfl | exact ⟨rfl, rfl⟩) (by simp [lput1, lput2, Value.category, fi0, fi1, fi2, fi3] <;> first | rfl | exact ⟨rfl, rfl⟩)
                  · refine Rg.step 122 F_Mo_isDisturbed_121 rfl (fun _ => rfl) ?_
                    refine Rg.step 123 F_Mo_isDisturbed_122 rfl (fun _ => rfl) ?_
                    refine Rg.step 124 F_Mo_isDisturbed_123 rfl (fun _ => rfl) ?_
                    refine Rg.call 127 F_Mo_isDisturbed_124 rfl (one_V rM_26_290 (by decide) (by simp) rfl rfl (gM hp) rfl) (Nat.le_of_ble_eq_true rfl) (Cg.any (c_Mo_interfere hp hw wT (by omega) (by omega))) ?_
                    refine Rg.ifeqP 132 130 F_Mo_isDisturbed_127 rfl rfl (fun h127 => ?_) (fun h127 => ?_)
                    · refine Rg.inc 135 F_Mo_isDisturbed_132 rfl rfl (by decide) ?_
                      refine Rg.step 2 F_Mo_isDisturbed_135 rfl (fun _ => rfl) ?_
                      exact Rg.weak hg (by simp [lput1, lput2, Value.category, fi0, fi1, fi2, fi3] <;> first | rfl | exact ⟨rfl, rfl⟩) (by simp [lput1, lput2, Value.category, fi0, fi1, fi2, fi3] <;> first | rfl | exact ⟨rfl, rfl⟩)
                    · refine Rg.step 131 F_Mo_isDisturbed_130 rfl (fun _ => rfl) ?_
                      exact absurd (And.intro h118 h127) hC
            · exact absurd hB (fun z => z.elim h23 h32)
      · obtain ⟨x1, y1, hg⟩ := ih (k + 1) x y (by omega) (by omega)
        rw [← propext (skip (fun z => hB z.2.1))] at hg
        refine ⟨x1, y1, ?_⟩
        refine Rg.step 3 F_Mo_isDisturbed_2 rfl (fun _ => rfl) ?_
        refine Rg.step 4 F_Mo_isDisturbed_3 rfl (fun _ => rfl) ?_
        refine Rg.step 5 F_Mo_isDisturbed_4 rfl (fun _ => rfl) ?_
        refine Rg.getf 8 F_Mo_isDisturbed_5 rfl rF_26_242 (gM hp) rfl ?_
        refine Rg.mulI 9 F_Mo_isDisturbed_8 rfl ?_
        refine Rg.icgeI 138 12 F_Mo_isDisturbed_9 rfl rfl (by omega) (by omega) (fun h9 => by omega) (fun _ => ?_)
        refine Rg.step 13 F_Mo_isDisturbed_12 rfl (fun _ => rfl) ?_
        refine Rg.step 14 F_Mo_isDisturbed_13 rfl (fun _ => rfl) ?_
        refine Rg.iceqI 132 17 F_Mo_isDisturbed_14 rfl rfl (by omega) (by omega) (fun h14 => by omega) (fun _ => ?_)
        refine Rg.step 18 F_Mo_isDisturbed_17 rfl (fun _ => rfl) ?_
        refine Rg.getf 21 F_Mo_isDisturbed_18 rfl rF_26_160 (gM hp) rfl ?_
        refine Rg.step 22 F_Mo_isDisturbed_21 rfl (fun _ => rfl) ?_
        refine Rg.zld 23 F_Mo_isDisturbed_22 rfl (gR_now hp) (by omega) (by decide) ?_
        refine Rg.ifneP 38 26 F_Mo_isDisturbed_23 rfl rfl (fun h23 => absurd (Or.inl h23) hB) (fun _ => ?_)
        refine Rg.step 27 F_Mo_isDisturbed_26 rfl (fun _ => rfl) ?_
        refine Rg.getf 30 F_Mo_isDisturbed_27 rfl rF_26_157 (gM hp) rfl ?_
        refine Rg.step 31 F_Mo_isDisturbed_30 rfl (fun _ => rfl) ?_
        refine Rg.zld 32 F_Mo_isDisturbed_31 rfl (gR_gone hp) (by omega) (by decide) ?_
        refine Rg.ifneP 38 35 F_Mo_isDisturbed_32 rfl rfl (fun h32 => absurd (Or.inr h32) hB) (fun _ => ?_)
        refine Rg.step 132 F_Mo_isDisturbed_35 rfl (fun _ => rfl) ?_
        refine Rg.inc 135 F_Mo_isDisturbed_132 rfl rfl (by decide) ?_
        refine Rg.step 2 F_Mo_isDisturbed_135 rfl (fun _ => rfl) ?_
        exact Rg.weak hg (by simp [lput1, lput2, Value.category, fi0, fi1, fi2, fi3] <;> first | rfl | exact ⟨rfl, rfl⟩) (by simp [lput1, lput2, Value.category, fi0, fi1, fi2, fi3] <;> first | rfl | exact ⟨rfl, rfl⟩)
theorem c_Mo_isDisturbed {d : Nat} (hp : pre.length = 168) (hw : WT epsilonN epsilonD wishes wants wantN wantD actions needs needTime needOf needHow needN needD changes changeTime changeOf changeHow changeN changeD lastOf lastN lastD firstN firstD) (wT : ∀ s, 0 ≤ triedAction s ∧ triedAction s < 12) (wS : 0 ≤ steps ∧ steps ≤ 12) (wQ : ∀ p, 0 ≤ p → p < 2 * steps → 0 ≤ pointN p ∧ pointN p ≤ 100000000000 ∧ 0 < pointD p ∧ pointD p ≤ 1000000) {p : Int} (h1 : 0 ≤ p ∧ p < 2 * steps) : ∃ x1 y1, Cg false (d + 5) m_Mo_isDisturbed [.ref 168, .int (iI p)] (MR pre code amountN amountD momentN momentD epsilonN epsilonD firstFacts firstN firstD wishes wants wantN wantD actions needs needTime needOf needHow needN needD changes changeTime changeOf changeHow changeN changeD lastOf lastN lastD steps stepAction startN startD lengthN lengthD rows row tried triedAction triedRows triedRow times unit facts numN numD oldFacts oldN oldD point judged fault faultPoint toldFacts toldN toldD outN outD pointN pointD gone now leastN leastD greatestN greatestD events post) (.inl (some (.int (bP (distP (intP triedAction needs needTime needHow needOf lastOf changes changeTime changeHow changeOf) epsilonN epsilonD pointN pointD (2 * steps) now gone p))))) (MR pre code amountN amountD momentN momentD epsilonN epsilonD firstFacts firstN firstD wishes wants wantN wantD actions needs needTime needOf needHow needN needD changes changeTime changeOf changeHow changeN changeD lastOf lastN lastD steps stepAction startN startD lengthN lengthD rows row tried triedAction triedRows triedRow times unit facts numN numD oldFacts oldN oldD point judged fault faultPoint toldFacts toldN toldD x1 y1 pointN pointD gone now leastN leastD greatestN greatestD events post) := by
  obtain ⟨x1, y1, hg⟩ := dist_loop (d := d) (n0 := (MR pre code amountN amountD momentN momentD epsilonN epsilonD firstFacts firstN firstD wishes wants wantN wantD actions needs needTime needOf needHow needN needD changes changeTime changeOf changeHow changeN changeD lastOf lastN lastD steps stepAction startN startD lengthN lengthD rows row tried triedAction triedRows triedRow times unit facts numN numD oldFacts oldN oldD point judged fault faultPoint toldFacts toldN toldD outN outD pointN pointD gone now leastN leastD greatestN greatestD events post).length) (pre := pre) (post := post) (now := now) (gone := gone) hp hw wT wS wQ h1 (2 * steps).toNat 0 outN outD (by omega) (by omega)
  refine ⟨x1, y1, ?_⟩
  refine Cg.of (Nat.le_of_ble_eq_true rfl) ?_
  change Rg _ _ _ _ 0 [(0, .ref 168), (1, .int (iI p))] [] _ _ _
  refine Rg.step 1 F_Mo_isDisturbed_0 rfl (fun _ => rfl) ?_
  refine Rg.step 2 F_Mo_isDisturbed_1 rfl (fun _ => rfl) ?_
  exact Rg.weak hg (by simp [lput1, lput2, Value.category, fi0, fi1, fi2, fi3] <;> first | rfl | exact ⟨rfl, rfl⟩) (by simp [lput1, lput2, Value.category, fi0, fi1, fi2, fi3] <;> first | rfl | exact ⟨rfl, rfl⟩)
theorem dur_bd (hw : WT epsilonN epsilonD wishes wants wantN wantD actions needs needTime needOf needHow needN needD changes changeTime changeOf changeHow changeN changeD lastOf lastN lastD firstN firstD) (wN : WN numN numD) {s which : Int} (h2 : 0 ≤ which ∧ which ≤ 1) (ha : 0 ≤ triedAction s ∧ triedAction s < actions) (h3 : ¬ lastOf (2 * triedAction s + which) = -2) : -100000000000000 ≤ durP numN lastOf lastN (2 * triedAction s + which) ∧ durP numN lastOf lastN (2 * triedAction s + which) ≤ 100000000000000 ∧ 0 < durP numD lastOf lastD (2 * triedAction s + which) ∧ durP numD lastOf lastD (2 * triedAction s + which) ≤ 1000000000000 := by
  obtain ⟨-, -, -, -, wA, -, -, -, -, -, -, -, -, -, -, -, -, wL, wLN, wLD, -⟩ := id hw
  have c1 := wL (2 * triedAction s + which)
  have c2 := wLN (2 * triedAction s + which)
  have c3 := wLD (2 * triedAction s + which) (by omega) (by omega) h3
  have c4 := wN (lastOf (2 * triedAction s + which))
  have m1 := mul_bd (a := numN (lastOf (2 * triedAction s + which))) (b := lastN (2 * triedAction s + which)) (A := 1000000000) (B := 100000) (by omega) (by omega)
  have m2 := mul_ps (a := numD (lastOf (2 * triedAction s + which))) (b := lastD (2 * triedAction s + which)) (A := 1000000000) (B := 1000) (by omega) (by omega)
  unfold durP
  split <;> omega
theorem c_Mo_lastsRight {d : Nat} (hp : pre.length = 168) (hw : WT epsilonN epsilonD wishes wants wantN wantD actions needs needTime needOf needHow needN needD changes changeTime changeOf changeHow changeN changeD lastOf lastN lastD firstN firstD) (wN : WN numN numD) {s : Int} (h1 : 0 ≤ s ∧ s < 12) (ha : 0 ≤ triedAction s ∧ triedAction s < actions) (wP : 0 < lengthN s ∧ lengthN s ≤ 100000000000 ∧ 0 < lengthD s ∧ lengthD s ≤ 1000000) : ∃ x1 y1, Cg false (d + 4) m_Mo_lastsRight [.ref 168, .int (iI s)] (MR pre code amountN amountD momentN momentD epsilonN epsilonD firstFacts firstN firstD wishes wants wantN wantD actions needs needTime needOf needHow needN needD changes changeTime changeOf changeHow changeN changeD lastOf lastN lastD steps stepAction startN startD lengthN lengthD rows row tried triedAction triedRows triedRow times unit facts numN numD oldFacts oldN oldD point judged fault faultPoint toldFacts toldN toldD outN outD pointN pointD gone now leastN leastD greatestN greatestD events post) (.inl (some (.int (bP (lastsOK lastOf lastN lastD numN numD (triedAction s) (lengthN s) (lengthD s)))))) (MR pre code amountN amountD momentN momentD epsilonN epsilonD firstFacts firstN firstD wishes wants wantN wantD actions needs needTime needOf needHow needN needD changes changeTime changeOf changeHow changeN changeD lastOf lastN lastD steps stepAction startN startD lengthN lengthD rows row tried triedAction triedRows triedRow times unit facts numN numD oldFacts oldN oldD point judged fault faultPoint toldFacts toldN toldD x1 y1 pointN pointD gone now leastN leastD greatestN greatestD events post) := by
  by_cases d0 : lastOf (2 * triedAction s + 0) = -2
  · skip
    by_cases d1 : lastOf (2 * triedAction s + 1) = -2
    · refine ⟨outN, outD, ?_⟩
      refine Cg.of (Nat.le_of_ble_eq_true rfl) ?_
      change Rg _ _ _ _ 0 [(0, .ref 168), (1, .int (iI s))] [] _ _ _
      refine Rg.step 1 F_Mo_lastsRight_0 rfl (fun _ => rfl) ?_
      refine Rg.step 2 F_Mo_lastsRight_1 rfl (fun _ => rfl) ?_
      refine Rg.step 3 F_Mo_lastsRight_2 rfl (fun _ => rfl) ?_
      refine Rg.call 6 F_Mo_lastsRight_3 rfl (one_V rM_26_293 (by decide) (by simp) rfl rfl (gM hp) rfl) (Nat.le_of_ble_eq_true rfl) (Cg.any (c_Mo_dur_no hp hw h1 (by omega) ha d0)) ?_
      refine Rg.ifeqP 37 9 F_Mo_lastsRight_6 rfl rfl (fun _ => ?_) (fun h6 => absurd h6 (fun z => z))
      refine Rg.step 38 F_Mo_lastsRight_37 rfl (fun _ => rfl) ?_
      refine Rg.step 39 F_Mo_lastsRight_38 rfl (fun _ => rfl) ?_
      refine Rg.step 40 F_Mo_lastsRight_39 rfl (fun _ => rfl) ?_
      refine Rg.call 43 F_Mo_lastsRight_40 rfl (one_V rM_26_293 (by decide) (by simp) rfl rfl (gM hp) rfl) (Nat.le_of_ble_eq_true rfl) (Cg.any (c_Mo_dur_no hp hw h1 (by omega) ha d1)) ?_
      refine Rg.ifeqP 72 46 F_Mo_lastsRight_43 rfl rfl (fun _ => ?_) (fun h43 => absurd h43 (fun z => z))
      refine Rg.step 73 F_Mo_lastsRight_72 rfl (fun _ => rfl) ?_
      refine Rg.step 77 F_Mo_lastsRight_73 rfl (fun _ => rfl) ?_
      exact Rg.ret1 F_Mo_lastsRight_77 rfl ⟨(fun z => absurd d0 z), fun z => absurd d1 z⟩ rfl
    · refine ⟨(nN (durP numN lastOf lastN (2 * triedAction s + 1)) (durP numD lastOf lastD (2 * triedAction s + 1))), (nD (durP numN lastOf lastN (2 * triedAction s + 1)) (durP numD lastOf lastD (2 * triedAction s + 1))), ?_⟩
      have b1 := dur_bd hw wN (which := 1) (by omega) ha d1
      have n1 := nN_bd (B := 100000000000000) b1.2.2.1 ⟨b1.1, b1.2.1⟩
      have q1 := nD_pos (n := (durP numN lastOf lastN (2 * triedAction s + 1))) b1.2.2.1
      have e1 := cmpF_red2 (m := lengthN s) (e := lengthD s) (n := (durP numN lastOf lastN (2 * triedAction s + 1))) b1.2.2.1
      have f1 := cmpF_b (lengthN s) (lengthD s) (durP numN lastOf lastN (2 * triedAction s + 1)) (durP numD lastOf lastD (2 * triedAction s + 1))
      refine Cg.of (Nat.le_of_ble_eq_true rfl) ?_
      change Rg _ _ _ _ 0 [(0, .ref 168), (1, .int (iI s))] [] _ _ _
      refine Rg.step 1 F_Mo_lastsRight_0 rfl (fun _ => rfl) ?_
      refine Rg.step 2 F_Mo_lastsRight_1 rfl (fun _ => rfl) ?_
      refine Rg.step 3 F_Mo_lastsRight_2 rfl (fun _ => rfl) ?_
      refine Rg.call 6 F_Mo_lastsRight_3 rfl (one_V rM_26_293 (by decide) (by simp) rfl rfl (gM hp) rfl) (Nat.le_of_ble_eq_true rfl) (Cg.any (c_Mo_dur_no hp hw h1 (by omega) ha d0)) ?_
      refine Rg.ifeqP 37 9 F_Mo_lastsRight_6 rfl rfl (fun _ => ?_) (fun h6 => absurd h6 (fun z => z))
      refine Rg.step 38 F_Mo_lastsRight_37 rfl (fun _ => rfl) ?_
      refine Rg.step 39 F_Mo_lastsRight_38 rfl (fun _ => rfl) ?_
      refine Rg.step 40 F_Mo_lastsRight_39 rfl (fun _ => rfl) ?_
      refine Rg.call 43 F_Mo_lastsRight_40 rfl (one_V rM_26_293 (by decide) (by simp) rfl rfl (gM hp) rfl) (Nat.le_of_ble_eq_true rfl) (c_Mo_dur_yes hp hw h1 (by omega) ha wN d1) ?_
      refine Rg.ifeqP 72 46 F_Mo_lastsRight_43 rfl rfl (fun h43 => absurd trivial h43) (fun _ => ?_)
      refine Rg.step 47 F_Mo_lastsRight_46 rfl (fun _ => rfl) ?_
      refine Rg.getf 50 F_Mo_lastsRight_47 rfl rF_26_102 (gM hp) rfl ?_
      refine Rg.step 51 F_Mo_lastsRight_50 rfl (fun _ => rfl) ?_
      refine Rg.lld 52 F_Mo_lastsRight_51 rfl (gR_lengthN hp) (by omega) (by decide) ?_
      refine Rg.step 53 F_Mo_lastsRight_52 rfl (fun _ => rfl) ?_
      refine Rg.getf 56 F_Mo_lastsRight_53 rfl rF_26_105 (gM hp) rfl ?_
      refine Rg.step 57 F_Mo_lastsRight_56 rfl (fun _ => rfl) ?_
      refine Rg.lld 58 F_Mo_lastsRight_57 rfl (gR_lengthD hp) (by omega) (by decide) ?_
      refine Rg.step 59 F_Mo_lastsRight_58 rfl (fun _ => rfl) ?_
      refine Rg.getf 62 F_Mo_lastsRight_59 rfl rF_26_189 (gM hp) rfl ?_
      refine Rg.step 63 F_Mo_lastsRight_62 rfl (fun _ => rfl) ?_
      refine Rg.getf 66 F_Mo_lastsRight_63 rfl rF_26_192 (gM hp) rfl ?_
      refine Rg.call 69 F_Mo_lastsRight_66 rfl (one_S (by decide +kernel) rM_26_264 (by decide) (by simp) rfl rfl) (Nat.le_of_ble_eq_true rfl) (Cg.any (c_Mo_order (by omega) (by omega) (by omega) (by omega) (by omega) (by omega))) ?_
      rw [e1]
      refine Rg.ifgtI 76 72 F_Mo_lastsRight_69 rfl rfl (by omega) (fun h69 => ?_) (fun h69 => ?_)
      · refine Rg.step 77 F_Mo_lastsRight_76 rfl (fun _ => rfl) ?_
        exact Rg.ret0 F_Mo_lastsRight_77 rfl (fun z => absurd (z.2 d1) (by omega)) rfl
      · refine Rg.step 73 F_Mo_lastsRight_72 rfl (fun _ => rfl) ?_
        refine Rg.step 77 F_Mo_lastsRight_73 rfl (fun _ => rfl) ?_
        exact Rg.ret1 F_Mo_lastsRight_77 rfl ⟨(fun z => absurd d0 z), fun _ => by omega⟩ rfl
  · skip
    have b0 := dur_bd hw wN (which := 0) (by omega) ha d0
    have n0 := nN_bd (B := 100000000000000) b0.2.2.1 ⟨b0.1, b0.2.1⟩
    have q0 := nD_pos (n := (durP numN lastOf lastN (2 * triedAction s + 0))) b0.2.2.1
    have e0 := cmpF_red2 (m := lengthN s) (e := lengthD s) (n := (durP numN lastOf lastN (2 * triedAction s + 0))) b0.2.2.1
    have f0 := cmpF_b (lengthN s) (lengthD s) (durP numN lastOf lastN (2 * triedAction s + 0)) (durP numD lastOf lastD (2 * triedAction s + 0))
    by_cases c0 : cmpF (lengthN s) (lengthD s) (durP numN lastOf lastN (2 * triedAction s + 0)) (durP numD lastOf lastD (2 * triedAction s + 0)) < 0
    · refine ⟨(nN (durP numN lastOf lastN (2 * triedAction s + 0)) (durP numD lastOf lastD (2 * triedAction s + 0))), (nD (durP numN lastOf lastN (2 * triedAction s + 0)) (durP numD lastOf lastD (2 * triedAction s + 0))), ?_⟩
      refine Cg.of (Nat.le_of_ble_eq_true rfl) ?_
      change Rg _ _ _ _ 0 [(0, .ref 168), (1, .int (iI s))] [] _ _ _
      refine Rg.step 1 F_Mo_lastsRight_0 rfl (fun _ => rfl) ?_
      refine Rg.step 2 F_Mo_lastsRight_1 rfl (fun _ => rfl) ?_
      refine Rg.step 3 F_Mo_lastsRight_2 rfl (fun _ => rfl) ?_
      refine Rg.call 6 F_Mo_lastsRight_3 rfl (one_V rM_26_293 (by decide) (by simp) rfl rfl (gM hp) rfl) (Nat.le_of_ble_eq_true rfl) (c_Mo_dur_yes hp hw h1 (by omega) ha wN d0) ?_
      refine Rg.ifeqP 37 9 F_Mo_lastsRight_6 rfl rfl (fun h6 => absurd trivial h6) (fun _ => ?_)
      refine Rg.step 10 F_Mo_lastsRight_9 rfl (fun _ => rfl) ?_
      refine Rg.getf 13 F_Mo_lastsRight_10 rfl rF_26_102 (gM hp) rfl ?_
      refine Rg.step 14 F_Mo_lastsRight_13 rfl (fun _ => rfl) ?_
      refine Rg.lld 15 F_Mo_lastsRight_14 rfl (gR_lengthN hp) (by omega) (by decide) ?_
      refine Rg.step 16 F_Mo_lastsRight_15 rfl (fun _ => rfl) ?_
      refine Rg.getf 19 F_Mo_lastsRight_16 rfl rF_26_105 (gM hp) rfl ?_
      refine Rg.step 20 F_Mo_lastsRight_19 rfl (fun _ => rfl) ?_
      refine Rg.lld 21 F_Mo_lastsRight_20 rfl (gR_lengthD hp) (by omega) (by decide) ?_
      refine Rg.step 22 F_Mo_lastsRight_21 rfl (fun _ => rfl) ?_
      refine Rg.getf 25 F_Mo_lastsRight_22 rfl rF_26_189 (gM hp) rfl ?_
      refine Rg.step 26 F_Mo_lastsRight_25 rfl (fun _ => rfl) ?_
      refine Rg.getf 29 F_Mo_lastsRight_26 rfl rF_26_192 (gM hp) rfl ?_
      refine Rg.call 32 F_Mo_lastsRight_29 rfl (one_S (by decide +kernel) rM_26_264 (by decide) (by simp) rfl rfl) (Nat.le_of_ble_eq_true rfl) (Cg.any (c_Mo_order (by omega) (by omega) (by omega) (by omega) (by omega) (by omega))) ?_
      rw [e0]
      refine Rg.ifgeI 37 35 F_Mo_lastsRight_32 rfl rfl (by omega) (fun h32 => by omega) (fun _ => ?_)
      refine Rg.step 36 F_Mo_lastsRight_35 rfl (fun _ => rfl) ?_
      exact Rg.ret0 F_Mo_lastsRight_36 rfl (fun z => z.1 d0 c0) rfl
    · skip
      by_cases d1 : lastOf (2 * triedAction s + 1) = -2
      · refine ⟨(nN (durP numN lastOf lastN (2 * triedAction s + 0)) (durP numD lastOf lastD (2 * triedAction s + 0))), (nD (durP numN lastOf lastN (2 * triedAction s + 0)) (durP numD lastOf lastD (2 * triedAction s + 0))), ?_⟩
        refine Cg.of (Nat.le_of_ble_eq_true rfl) ?_
        change Rg _ _ _ _ 0 [(0, .ref 168), (1, .int (iI s))] [] _ _ _
        refine Rg.step 1 F_Mo_lastsRight_0 rfl (fun _ => rfl) ?_
        refine Rg.step 2 F_Mo_lastsRight_1 rfl (fun _ => rfl) ?_
        refine Rg.step 3 F_Mo_lastsRight_2 rfl (fun _ => rfl) ?_
        refine Rg.call 6 F_Mo_lastsRight_3 rfl (one_V rM_26_293 (by decide) (by simp) rfl rfl (gM hp) rfl) (Nat.le_of_ble_eq_true rfl) (c_Mo_dur_yes hp hw h1 (by omega) ha wN d0) ?_
        refine Rg.ifeqP 37 9 F_Mo_lastsRight_6 rfl rfl (fun h6 => absurd trivial h6) (fun _ => ?_)
        refine Rg.step 10 F_Mo_lastsRight_9 rfl (fun _ => rfl) ?_
        refine Rg.getf 13 F_Mo_lastsRight_10 rfl rF_26_102 (gM hp) rfl ?_
        refine Rg.step 14 F_Mo_lastsRight_13 rfl (fun _ => rfl) ?_
        refine Rg.lld 15 F_Mo_lastsRight_14 rfl (gR_lengthN hp) (by omega) (by decide) ?_
        refine Rg.step 16 F_Mo_lastsRight_15 rfl (fun _ => rfl) ?_
        refine Rg.getf 19 F_Mo_lastsRight_16 rfl rF_26_105 (gM hp) rfl ?_
        refine Rg.step 20 F_Mo_lastsRight_19 rfl (fun _ => rfl) ?_
        refine Rg.lld 21 F_Mo_lastsRight_20 rfl (gR_lengthD hp) (by omega) (by decide) ?_
        refine Rg.step 22 F_Mo_lastsRight_21 rfl (fun _ => rfl) ?_
        refine Rg.getf 25 F_Mo_lastsRight_22 rfl rF_26_189 (gM hp) rfl ?_
        refine Rg.step 26 F_Mo_lastsRight_25 rfl (fun _ => rfl) ?_
        refine Rg.getf 29 F_Mo_lastsRight_26 rfl rF_26_192 (gM hp) rfl ?_
        refine Rg.call 32 F_Mo_lastsRight_29 rfl (one_S (by decide +kernel) rM_26_264 (by decide) (by simp) rfl rfl) (Nat.le_of_ble_eq_true rfl) (Cg.any (c_Mo_order (by omega) (by omega) (by omega) (by omega) (by omega) (by omega))) ?_
        rw [e0]
        refine Rg.ifgeI 37 35 F_Mo_lastsRight_32 rfl rfl (by omega) (fun _ => ?_) (fun h32 => absurd h32 (by omega))
        refine Rg.step 38 F_Mo_lastsRight_37 rfl (fun _ => rfl) ?_
        refine Rg.step 39 F_Mo_lastsRight_38 rfl (fun _ => rfl) ?_
        refine Rg.step 40 F_Mo_lastsRight_39 rfl (fun _ => rfl) ?_
        refine Rg.call 43 F_Mo_lastsRight_40 rfl (one_V rM_26_293 (by decide) (by simp) rfl rfl (gM hp) rfl) (Nat.le_of_ble_eq_true rfl) (Cg.any (c_Mo_dur_no hp hw h1 (by omega) ha d1)) ?_
        refine Rg.ifeqP 72 46 F_Mo_lastsRight_43 rfl rfl (fun _ => ?_) (fun h43 => absurd h43 (fun z => z))
        refine Rg.step 73 F_Mo_lastsRight_72 rfl (fun _ => rfl) ?_
        refine Rg.step 77 F_Mo_lastsRight_73 rfl (fun _ => rfl) ?_
        exact Rg.ret1 F_Mo_lastsRight_77 rfl ⟨(fun _ => c0), fun z => absurd d1 z⟩ rfl
      · refine ⟨(nN (durP numN lastOf lastN (2 * triedAction s + 1)) (durP numD lastOf lastD (2 * triedAction s + 1))), (nD (durP numN lastOf lastN (2 * triedAction s + 1)) (durP numD lastOf lastD (2 * triedAction s + 1))), ?_⟩
        have b1 := dur_bd hw wN (which := 1) (by omega) ha d1
        have n1 := nN_bd (B := 100000000000000) b1.2.2.1 ⟨b1.1, b1.2.1⟩
        have q1 := nD_pos (n := (durP numN lastOf lastN (2 * triedAction s + 1))) b1.2.2.1
        have e1 := cmpF_red2 (m := lengthN s) (e := lengthD s) (n := (durP numN lastOf lastN (2 * triedAction s + 1))) b1.2.2.1
        have f1 := cmpF_b (lengthN s) (lengthD s) (durP numN lastOf lastN (2 * triedAction s + 1)) (durP numD lastOf lastD (2 * triedAction s + 1))
        refine Cg.of (Nat.le_of_ble_eq_true rfl) ?_
        change Rg _ _ _ _ 0 [(0, .ref 168), (1, .int (iI s))] [] _ _ _
        refine Rg.step 1 F_Mo_lastsRight_0 rfl (fun _ => rfl) ?_
        refine Rg.step 2 F_Mo_lastsRight_1 rfl (fun _ => rfl) ?_
        refine Rg.step 3 F_Mo_lastsRight_2 rfl (fun _ => rfl) ?_
        refine Rg.call 6 F_Mo_lastsRight_3 rfl (one_V rM_26_293 (by decide) (by simp) rfl rfl (gM hp) rfl) (Nat.le_of_ble_eq_true rfl) (c_Mo_dur_yes hp hw h1 (by omega) ha wN d0) ?_
        refine Rg.ifeqP 37 9 F_Mo_lastsRight_6 rfl rfl (fun h6 => absurd trivial h6) (fun _ => ?_)
        refine Rg.step 10 F_Mo_lastsRight_9 rfl (fun _ => rfl) ?_
        refine Rg.getf 13 F_Mo_lastsRight_10 rfl rF_26_102 (gM hp) rfl ?_
        refine Rg.step 14 F_Mo_lastsRight_13 rfl (fun _ => rfl) ?_
        refine Rg.lld 15 F_Mo_lastsRight_14 rfl (gR_lengthN hp) (by omega) (by decide) ?_
        refine Rg.step 16 F_Mo_lastsRight_15 rfl (fun _ => rfl) ?_
        refine Rg.getf 19 F_Mo_lastsRight_16 rfl rF_26_105 (gM hp) rfl ?_
        refine Rg.step 20 F_Mo_lastsRight_19 rfl (fun _ => rfl) ?_
        refine Rg.lld 21 F_Mo_lastsRight_20 rfl (gR_lengthD hp) (by omega) (by decide) ?_
        refine Rg.step 22 F_Mo_lastsRight_21 rfl (fun _ => rfl) ?_
        refine Rg.getf 25 F_Mo_lastsRight_22 rfl rF_26_189 (gM hp) rfl ?_
        refine Rg.step 26 F_Mo_lastsRight_25 rfl (fun _ => rfl) ?_
        refine Rg.getf 29 F_Mo_lastsRight_26 rfl rF_26_192 (gM hp) rfl ?_
        refine Rg.call 32 F_Mo_lastsRight_29 rfl (one_S (by decide +kernel) rM_26_264 (by decide) (by simp) rfl rfl) (Nat.le_of_ble_eq_true rfl) (Cg.any (c_Mo_order (by omega) (by omega) (by omega) (by omega) (by omega) (by omega))) ?_
        rw [e0]
        refine Rg.ifgeI 37 35 F_Mo_lastsRight_32 rfl rfl (by omega) (fun _ => ?_) (fun h32 => absurd h32 (by omega))
        refine Rg.step 38 F_Mo_lastsRight_37 rfl (fun _ => rfl) ?_
        refine Rg.step 39 F_Mo_lastsRight_38 rfl (fun _ => rfl) ?_
        refine Rg.step 40 F_Mo_lastsRight_39 rfl (fun _ => rfl) ?_
        refine Rg.call 43 F_Mo_lastsRight_40 rfl (one_V rM_26_293 (by decide) (by simp) rfl rfl (gM hp) rfl) (Nat.le_of_ble_eq_true rfl) (c_Mo_dur_yes hp hw h1 (by omega) ha wN d1) ?_
        refine Rg.ifeqP 72 46 F_Mo_lastsRight_43 rfl rfl (fun h43 => absurd trivial h43) (fun _ => ?_)
        refine Rg.step 47 F_Mo_lastsRight_46 rfl (fun _ => rfl) ?_
        refine Rg.getf 50 F_Mo_lastsRight_47 rfl rF_26_102 (gM hp) rfl ?_
        refine Rg.step 51 F_Mo_lastsRight_50 rfl (fun _ => rfl) ?_
        refine Rg.lld 52 F_Mo_lastsRight_51 rfl (gR_lengthN hp) (by omega) (by decide) ?_
        refine Rg.step 53 F_Mo_lastsRight_52 rfl (fun _ => rfl) ?_
        refine Rg.getf 56 F_Mo_lastsRight_53 rfl rF_26_105 (gM hp) rfl ?_
        refine Rg.step 57 F_Mo_lastsRight_56 rfl (fun _ => rfl) ?_
        refine Rg.lld 58 F_Mo_lastsRight_57 rfl (gR_lengthD hp) (by omega) (by decide) ?_
        refine Rg.step 59 F_Mo_lastsRight_58 rfl (fun _ => rfl) ?_
        refine Rg.getf 62 F_Mo_lastsRight_59 rfl rF_26_189 (gM hp) rfl ?_
        refine Rg.step 63 F_Mo_lastsRight_62 rfl (fun _ => rfl) ?_
        refine Rg.getf 66 F_Mo_lastsRight_63 rfl rF_26_192 (gM hp) rfl ?_
        refine Rg.call 69 F_Mo_lastsRight_66 rfl (one_S (by decide +kernel) rM_26_264 (by decide) (by simp) rfl rfl) (Nat.le_of_ble_eq_true rfl) (Cg.any (c_Mo_order (by omega) (by omega) (by omega) (by omega) (by omega) (by omega))) ?_
        rw [e1]
        refine Rg.ifgtI 76 72 F_Mo_lastsRight_69 rfl rfl (by omega) (fun h69 => ?_) (fun h69 => ?_)
        · refine Rg.step 77 F_Mo_lastsRight_76 rfl (fun _ => rfl) ?_
          exact Rg.ret0 F_Mo_lastsRight_77 rfl (fun z => absurd (z.2 d1) (by omega)) rfl
        · refine Rg.step 73 F_Mo_lastsRight_72 rfl (fun _ => rfl) ?_
          refine Rg.step 77 F_Mo_lastsRight_73 rfl (fun _ => rfl) ?_
          exact Rg.ret1 F_Mo_lastsRight_77 rfl ⟨(fun _ => c0), fun _ => by omega⟩ rfl
end R49
