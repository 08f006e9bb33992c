/-! Fractions: order and comparisons. -/
def flC (a b : Int64) : Int64 := if a ^^^ b < 0 ∧ ¬ a / b * b = a then a / b - 1 else a / b
theorem c_floorDiv (d : Nat) {mem : AM} {a b : Int64} (hb : ¬ b = 0) : Cg true d m_Math_floorDiv [.long a, .long b] mem (.inl (some (.long (flC a b)))) mem := by
  refine Cg.of (Nat.le_of_ble_eq_true rfl) ?_
  change Rg _ _ _ _ 0 [(0, .long a), (2, .long b)] [] _ _ _
  refine Rg.step 1 F_Math_floorDiv_0 rfl (fun _ => rfl) ?_
  refine Rg.step 2 F_Math_floorDiv_1 rfl (fun _ => rfl) ?_
  refine Rg.divL 3 F_Math_floorDiv_2 rfl hb ?_
  refine Rg.step 5 F_Math_floorDiv_3 rfl (fun _ => rfl) ?_
  refine Rg.step 6 F_Math_floorDiv_5 rfl (fun _ => rfl) ?_
  refine Rg.step 7 F_Math_floorDiv_6 rfl (fun _ => rfl) ?_
  refine Rg.step 8 F_Math_floorDiv_7 rfl (fun _ => rfl) ?_
  refine Rg.step 9 F_Math_floorDiv_8 rfl (fun _ => rfl) ?_
  refine Rg.step 10 F_Math_floorDiv_9 rfl (fun _ => rfl) ?_
  refine Rg.ifge 27 13 F_Math_floorDiv_10 rfl rfl (fun h1 => ?_) (fun h1 => ?_)
  · refine Rg.step 29 F_Math_floorDiv_27 rfl (fun _ => rfl) ?_
    have e1 : flC a b = a / b := by simp only [flC]; rw [if_neg]; intro z; exact absurd z.1 (Int64.not_lt.mpr ((lg_cmp_ge _ _).mp h1))
    rw [e1]
    exact Rg.ret F_Math_floorDiv_29 rfl
  · refine Rg.step 15 F_Math_floorDiv_13 rfl (fun _ => rfl) ?_
    refine Rg.step 16 F_Math_floorDiv_15 rfl (fun _ => rfl) ?_
    refine Rg.step 17 F_Math_floorDiv_16 rfl (fun _ => rfl) ?_
    refine Rg.step 18 F_Math_floorDiv_17 rfl (fun _ => rfl) ?_
    refine Rg.step 19 F_Math_floorDiv_18 rfl (fun _ => rfl) ?_
    refine Rg.ifeq 27 22 F_Math_floorDiv_19 rfl rfl (fun h2 => ?_) (fun h2 => ?_)
    · refine Rg.step 29 F_Math_floorDiv_27 rfl (fun _ => rfl) ?_
      have e1 : flC a b = a / b := by simp only [flC]; rw [if_neg]; intro z; exact z.2 ((lg_cmp_eq _ _).mp h2)
      rw [e1]
      exact Rg.ret F_Math_floorDiv_29 rfl
    · refine Rg.step 24 F_Math_floorDiv_22 rfl (fun _ => rfl) ?_
      refine Rg.step 25 F_Math_floorDiv_24 rfl (fun _ => rfl) ?_
      refine Rg.step 26 F_Math_floorDiv_25 rfl (fun _ => rfl) ?_
      have e1 : flC a b = a / b - 1 := by simp only [flC]; rw [if_pos]; exact ⟨Int64.not_le.mp (fun z => h1 ((lg_cmp_ge _ _).mpr z)), fun z => h2 ((lg_cmp_eq _ _).mpr z)⟩
      rw [e1]
      exact Rg.ret F_Math_floorDiv_26 rfl
def orC : Nat → Int64 → Int64 → Int64 → Int64 → Int32 → Int32
  | 0, _, _, _, _, _ => 0
  | n + 1, a, b, c, e, s => if b ≤ 0 ∨ e ≤ 0 then 0 else if ¬ flC a b = flC c e then (if flC a b < flC c e then -s else s)
    else if a - flC a b * b = 0 ∨ c - flC c e * e = 0 then (if a - flC a b * b = c - flC c e * e then 0 else if a - flC a b * b = 0 then -s else s)
    else orC n b (a - flC a b * b) e (c - flC c e * e) (-s)
theorem or_loop {d n0 : Nat} {mem : AM} : ∀ (n k : Nat) (a b c e : Int64) (s : Int32), k + n = 200 → Rg true (d + 1) m_Fractions_orderTo n0 38 [(13, .int (nI k)), (12, .int s), (10, .long e), (8, .long c), (6, .long b), (4, .long a)] [] mem (.inl (some (.int (orC n a b c e s)))) mem := by
  intro n
  induction n with
  | zero =>
    intro k a b c e s hk
    have hk : k = 200 := by omega
    subst hk
    refine Rg.step 40 F_Fractions_orderTo_38 rfl (fun _ => rfl) ?_
    refine Rg.step 43 F_Fractions_orderTo_40 rfl (fun _ => rfl) ?_
    refine Rg.icge 192 46 F_Fractions_orderTo_43 rfl rfl (fun _ => ?_) (fun h => absurd (show nI 200 ≤ nI 200 from Int32.le_refl _) h)
    refine Rg.step 193 F_Fractions_orderTo_192 rfl (fun _ => rfl) ?_
    exact Rg.ret F_Fractions_orderTo_193 rfl
  | succ n ih =>
    intro k a b c e s hk
    have hlt : nI k < nI 200 := (xI_lt (by omega) (by omega)).mpr (by omega)
    by_cases hb : b ≤ 0
    · have e1 : orC (n + 1) a b c e s = 0 := by simp [orC, hb]
      rw [e1]
      refine Rg.step 40 F_Fractions_orderTo_38 rfl (fun _ => rfl) ?_
      refine Rg.step 43 F_Fractions_orderTo_40 rfl (fun _ => rfl) ?_
      refine Rg.icge 192 46 F_Fractions_orderTo_43 rfl rfl (fun h => absurd h (Int32.not_le.mpr hlt)) (fun _ => ?_)
      refine Rg.step 48 F_Fractions_orderTo_46 rfl (fun _ => rfl) ?_
      refine Rg.step 49 F_Fractions_orderTo_48 rfl (fun _ => rfl) ?_
      refine Rg.step 50 F_Fractions_orderTo_49 rfl (fun _ => rfl) ?_
      refine Rg.ifle 192 53 F_Fractions_orderTo_50 rfl rfl (fun _ => ?_) (fun h => absurd ((lg_cmp_le _ _).mpr hb) h)
      refine Rg.step 193 F_Fractions_orderTo_192 rfl (fun _ => rfl) ?_
      exact Rg.ret F_Fractions_orderTo_193 rfl
    · by_cases he : e ≤ 0
      · have e1 : orC (n + 1) a b c e s = 0 := by simp [orC, he]
        rw [e1]
        refine Rg.step 40 F_Fractions_orderTo_38 rfl (fun _ => rfl) ?_
        refine Rg.step 43 F_Fractions_orderTo_40 rfl (fun _ => rfl) ?_
        refine Rg.icge 192 46 F_Fractions_orderTo_43 rfl rfl (fun h => absurd h (Int32.not_le.mpr hlt)) (fun _ => ?_)
        refine Rg.step 48 F_Fractions_orderTo_46 rfl (fun _ => rfl) ?_
        refine Rg.step 49 F_Fractions_orderTo_48 rfl (fun _ => rfl) ?_
        refine Rg.step 50 F_Fractions_orderTo_49 rfl (fun _ => rfl) ?_
        refine Rg.ifle 192 53 F_Fractions_orderTo_50 rfl rfl (fun h => absurd ((lg_cmp_le _ _).mp h) hb) (fun _ => ?_)
        refine Rg.step 55 F_Fractions_orderTo_53 rfl (fun _ => rfl) ?_
        refine Rg.step 56 F_Fractions_orderTo_55 rfl (fun _ => rfl) ?_
        refine Rg.step 57 F_Fractions_orderTo_56 rfl (fun _ => rfl) ?_
        refine Rg.ifle 192 60 F_Fractions_orderTo_57 rfl rfl (fun _ => ?_) (fun h => absurd ((lg_cmp_le _ _).mpr he) h)
        refine Rg.step 193 F_Fractions_orderTo_192 rfl (fun _ => rfl) ?_
        exact Rg.ret F_Fractions_orderTo_193 rfl
      · have hb0 : ¬ b = 0 := fun z => hb (by rw [z]; exact Int64.le_refl _)
        have he0 : ¬ e = 0 := fun z => he (by rw [z]; exact Int64.le_refl _)
        by_cases hx : flC a b = flC c e
        · by_cases hr : a - flC a b * b = 0 ∨ c - flC c e * e = 0
          · by_cases hq : a - flC a b * b = c - flC c e * e
            · have e1 : orC (n + 1) a b c e s = 0 := by simp only [orC]; rw [if_neg (by simp [hb, he]), if_neg (by simp [hx]), if_pos hr, if_pos hq]
              rw [e1]
              have z1 : a - flC a b * b = 0 := by
                rcases hr with h | h
                · exact h
                · rw [hq]; exact h
              refine Rg.step 40 F_Fractions_orderTo_38 rfl (fun _ => rfl) ?_
              refine Rg.step 43 F_Fractions_orderTo_40 rfl (fun _ => rfl) ?_
              refine Rg.icge 192 46 F_Fractions_orderTo_43 rfl rfl (fun h => absurd h (Int32.not_le.mpr hlt)) (fun _ => ?_)
              refine Rg.step 48 F_Fractions_orderTo_46 rfl (fun _ => rfl) ?_
              refine Rg.step 49 F_Fractions_orderTo_48 rfl (fun _ => rfl) ?_
              refine Rg.step 50 F_Fractions_orderTo_49 rfl (fun _ => rfl) ?_
              refine Rg.ifle 192 53 F_Fractions_orderTo_50 rfl rfl (fun h => absurd ((lg_cmp_le _ _).mp h) hb) (fun _ => ?_)
              refine Rg.step 55 F_Fractions_orderTo_53 rfl (fun _ => rfl) ?_
              refine Rg.step 56 F_Fractions_orderTo_55 rfl (fun _ => rfl) ?_
              refine Rg.step 57 F_Fractions_orderTo_56 rfl (fun _ => rfl) ?_
              refine Rg.ifle 192 60 F_Fractions_orderTo_57 rfl rfl (fun h => absurd ((lg_cmp_le _ _).mp h) he) (fun _ => ?_)
              refine Rg.step 62 F_Fractions_orderTo_60 rfl (fun _ => rfl) ?_
              refine Rg.step 64 F_Fractions_orderTo_62 rfl (fun _ => rfl) ?_
              refine Rg.call 67 F_Fractions_orderTo_64 rfl (one_S (by decide +kernel) rM_3_46 (by decide) (by simp) rfl rfl) (Nat.le_of_ble_eq_true rfl) (c_floorDiv d hb0) ?_
              refine Rg.step 69 F_Fractions_orderTo_67 rfl (fun _ => rfl) ?_
              refine Rg.step 71 F_Fractions_orderTo_69 rfl (fun _ => rfl) ?_
              refine Rg.step 73 F_Fractions_orderTo_71 rfl (fun _ => rfl) ?_
              refine Rg.call 76 F_Fractions_orderTo_73 rfl (one_S (by decide +kernel) rM_3_46 (by decide) (by simp) rfl rfl) (Nat.le_of_ble_eq_true rfl) (c_floorDiv d he0) ?_
              refine Rg.step 78 F_Fractions_orderTo_76 rfl (fun _ => rfl) ?_
              refine Rg.step 80 F_Fractions_orderTo_78 rfl (fun _ => rfl) ?_
              refine Rg.step 82 F_Fractions_orderTo_80 rfl (fun _ => rfl) ?_
              refine Rg.step 83 F_Fractions_orderTo_82 rfl (fun _ => rfl) ?_
              refine Rg.ifeq 103 86 F_Fractions_orderTo_83 rfl rfl (fun _ => ?_) (fun h => absurd ((lg_cmp_eq _ _).mpr hx) h)
              refine Rg.step 105 F_Fractions_orderTo_103 rfl (fun _ => rfl) ?_
              refine Rg.step 107 F_Fractions_orderTo_105 rfl (fun _ => rfl) ?_
              refine Rg.step 109 F_Fractions_orderTo_107 rfl (fun _ => rfl) ?_
              refine Rg.step 110 F_Fractions_orderTo_109 rfl (fun _ => rfl) ?_
              refine Rg.step 111 F_Fractions_orderTo_110 rfl (fun _ => rfl) ?_
              refine Rg.step 113 F_Fractions_orderTo_111 rfl (fun _ => rfl) ?_
              refine Rg.step 115 F_Fractions_orderTo_113 rfl (fun _ => rfl) ?_
              refine Rg.step 117 F_Fractions_orderTo_115 rfl (fun _ => rfl) ?_
              refine Rg.step 119 F_Fractions_orderTo_117 rfl (fun _ => rfl) ?_
              refine Rg.step 120 F_Fractions_orderTo_119 rfl (fun _ => rfl) ?_
              refine Rg.step 121 F_Fractions_orderTo_120 rfl (fun _ => rfl) ?_
              refine Rg.step 123 F_Fractions_orderTo_121 rfl (fun _ => rfl) ?_
              refine Rg.step 125 F_Fractions_orderTo_123 rfl (fun _ => rfl) ?_
              refine Rg.step 126 F_Fractions_orderTo_125 rfl (fun _ => rfl) ?_
              refine Rg.step 127 F_Fractions_orderTo_126 rfl (fun _ => rfl) ?_
              refine Rg.ifeq 137 130 F_Fractions_orderTo_127 rfl rfl (fun _ => ?_) (fun h => absurd ((lg_cmp_eq _ _).mpr z1) h)
              refine Rg.step 139 F_Fractions_orderTo_137 rfl (fun _ => rfl) ?_
              refine Rg.step 141 F_Fractions_orderTo_139 rfl (fun _ => rfl) ?_
              refine Rg.step 142 F_Fractions_orderTo_141 rfl (fun _ => rfl) ?_
              refine Rg.ifne 149 145 F_Fractions_orderTo_142 rfl rfl (fun h => absurd ((lg_cmp_eq _ _).mpr hq) h) (fun _ => ?_)
              refine Rg.step 146 F_Fractions_orderTo_145 rfl (fun _ => rfl) ?_
              refine Rg.step 164 F_Fractions_orderTo_146 rfl (fun _ => rfl) ?_
              exact Rg.ret F_Fractions_orderTo_164 rfl
            · by_cases hz : a - flC a b * b = 0
              · have e1 : orC (n + 1) a b c e s = -s := by simp only [orC]; rw [if_neg (by simp [hb, he]), if_neg (by simp [hx]), if_pos hr, if_neg hq, if_pos hz]
                rw [e1]
                refine Rg.step 40 F_Fractions_orderTo_38 rfl (fun _ => rfl) ?_
                refine Rg.step 43 F_Fractions_orderTo_40 rfl (fun _ => rfl) ?_
                refine Rg.icge 192 46 F_Fractions_orderTo_43 rfl rfl (fun h => absurd h (Int32.not_le.mpr hlt)) (fun _ => ?_)
                refine Rg.step 48 F_Fractions_orderTo_46 rfl (fun _ => rfl) ?_
                refine Rg.step 49 F_Fractions_orderTo_48 rfl (fun _ => rfl) ?_
                refine Rg.step 50 F_Fractions_orderTo_49 rfl (fun _ => rfl) ?_
                refine Rg.ifle 192 53 F_Fractions_orderTo_50 rfl rfl (fun h => absurd ((lg_cmp_le _ _).mp h) hb) (fun _ => ?_)
                refine Rg.step 55 F_Fractions_orderTo_53 rfl (fun _ => rfl) ?_
                refine Rg.step 56 F_Fractions_orderTo_55 rfl (fun _ => rfl) ?_
                refine Rg.step 57 F_Fractions_orderTo_56 rfl (fun _ => rfl) ?_
                refine Rg.ifle 192 60 F_Fractions_orderTo_57 rfl rfl (fun h => absurd ((lg_cmp_le _ _).mp h) he) (fun _ => ?_)
                refine Rg.step 62 F_Fractions_orderTo_60 rfl (fun _ => rfl) ?_
                refine Rg.step 64 F_Fractions_orderTo_62 rfl (fun _ => rfl) ?_
                refine Rg.call 67 F_Fractions_orderTo_64 rfl (one_S (by decide +kernel) rM_3_46 (by decide) (by simp) rfl rfl) (Nat.le_of_ble_eq_true rfl) (c_floorDiv d hb0) ?_
                refine Rg.step 69 F_Fractions_orderTo_67 rfl (fun _ => rfl) ?_
                refine Rg.step 71 F_Fractions_orderTo_69 rfl (fun _ => rfl) ?_
                refine Rg.step 73 F_Fractions_orderTo_71 rfl (fun _ => rfl) ?_
                refine Rg.call 76 F_Fractions_orderTo_73 rfl (one_S (by decide +kernel) rM_3_46 (by decide) (by simp) rfl rfl) (Nat.le_of_ble_eq_true rfl) (c_floorDiv d he0) ?_
                refine Rg.step 78 F_Fractions_orderTo_76 rfl (fun _ => rfl) ?_
                refine Rg.step 80 F_Fractions_orderTo_78 rfl (fun _ => rfl) ?_
                refine Rg.step 82 F_Fractions_orderTo_80 rfl (fun _ => rfl) ?_
                refine Rg.step 83 F_Fractions_orderTo_82 rfl (fun _ => rfl) ?_
                refine Rg.ifeq 103 86 F_Fractions_orderTo_83 rfl rfl (fun _ => ?_) (fun h => absurd ((lg_cmp_eq _ _).mpr hx) h)
                refine Rg.step 105 F_Fractions_orderTo_103 rfl (fun _ => rfl) ?_
                refine Rg.step 107 F_Fractions_orderTo_105 rfl (fun _ => rfl) ?_
                refine Rg.step 109 F_Fractions_orderTo_107 rfl (fun _ => rfl) ?_
                refine Rg.step 110 F_Fractions_orderTo_109 rfl (fun _ => rfl) ?_
                refine Rg.step 111 F_Fractions_orderTo_110 rfl (fun _ => rfl) ?_
                refine Rg.step 113 F_Fractions_orderTo_111 rfl (fun _ => rfl) ?_
                refine Rg.step 115 F_Fractions_orderTo_113 rfl (fun _ => rfl) ?_
                refine Rg.step 117 F_Fractions_orderTo_115 rfl (fun _ => rfl) ?_
                refine Rg.step 119 F_Fractions_orderTo_117 rfl (fun _ => rfl) ?_
                refine Rg.step 120 F_Fractions_orderTo_119 rfl (fun _ => rfl) ?_
                refine Rg.step 121 F_Fractions_orderTo_120 rfl (fun _ => rfl) ?_
                refine Rg.step 123 F_Fractions_orderTo_121 rfl (fun _ => rfl) ?_
                refine Rg.step 125 F_Fractions_orderTo_123 rfl (fun _ => rfl) ?_
                refine Rg.step 126 F_Fractions_orderTo_125 rfl (fun _ => rfl) ?_
                refine Rg.step 127 F_Fractions_orderTo_126 rfl (fun _ => rfl) ?_
                refine Rg.ifeq 137 130 F_Fractions_orderTo_127 rfl rfl (fun _ => ?_) (fun h => absurd ((lg_cmp_eq _ _).mpr hz) h)
                refine Rg.step 139 F_Fractions_orderTo_137 rfl (fun _ => rfl) ?_
                refine Rg.step 141 F_Fractions_orderTo_139 rfl (fun _ => rfl) ?_
                refine Rg.step 142 F_Fractions_orderTo_141 rfl (fun _ => rfl) ?_
                refine Rg.ifne 149 145 F_Fractions_orderTo_142 rfl rfl (fun _ => ?_) (fun h => absurd ((lg_cmp_eq _ _).mp h) hq)
                refine Rg.step 151 F_Fractions_orderTo_149 rfl (fun _ => rfl) ?_
                refine Rg.step 152 F_Fractions_orderTo_151 rfl (fun _ => rfl) ?_
                refine Rg.step 153 F_Fractions_orderTo_152 rfl (fun _ => rfl) ?_
                refine Rg.ifne 162 156 F_Fractions_orderTo_153 rfl rfl (fun h => absurd ((lg_cmp_eq _ _).mpr hz) h) (fun _ => ?_)
                refine Rg.step 158 F_Fractions_orderTo_156 rfl (fun _ => rfl) ?_
                refine Rg.step 159 F_Fractions_orderTo_158 rfl (fun _ => rfl) ?_
                refine Rg.step 164 F_Fractions_orderTo_159 rfl (fun _ => rfl) ?_
                exact Rg.ret F_Fractions_orderTo_164 rfl
              · have e1 : orC (n + 1) a b c e s = s := by simp only [orC]; rw [if_neg (by simp [hb, he]), if_neg (by simp [hx]), if_pos hr, if_neg hq, if_neg hz]
                rw [e1]
                have z2 : c - flC c e * e = 0 := hr.resolve_left hz
                refine Rg.step 40 F_Fractions_orderTo_38 rfl (fun _ => rfl) ?_
                refine Rg.step 43 F_Fractions_orderTo_40 rfl (fun _ => rfl) ?_
                refine Rg.icge 192 46 F_Fractions_orderTo_43 rfl rfl (fun h => absurd h (Int32.not_le.mpr hlt)) (fun _ => ?_)
                refine Rg.step 48 F_Fractions_orderTo_46 rfl (fun _ => rfl) ?_
                refine Rg.step 49 F_Fractions_orderTo_48 rfl (fun _ => rfl) ?_
                refine Rg.step 50 F_Fractions_orderTo_49 rfl (fun _ => rfl) ?_
                refine Rg.ifle 192 53 F_Fractions_orderTo_50 rfl rfl (fun h => absurd ((lg_cmp_le _ _).mp h) hb) (fun _ => ?_)
                refine Rg.step 55 F_Fractions_orderTo_53 rfl (fun _ => rfl) ?_
                refine Rg.step 56 F_Fractions_orderTo_55 rfl (fun _ => rfl) ?_
                refine Rg.step 57 F_Fractions_orderTo_56 rfl (fun _ => rfl) ?_
                refine Rg.ifle 192 60 F_Fractions_orderTo_57 rfl rfl (fun h => absurd ((lg_cmp_le _ _).mp h) he) (fun _ => ?_)
                refine Rg.step 62 F_Fractions_orderTo_60 rfl (fun _ => rfl) ?_
                refine Rg.step 64 F_Fractions_orderTo_62 rfl (fun _ => rfl) ?_
                refine Rg.call 67 F_Fractions_orderTo_64 rfl (one_S (by decide +kernel) rM_3_46 (by decide) (by simp) rfl rfl) (Nat.le_of_ble_eq_true rfl) (c_floorDiv d hb0) ?_
                refine Rg.step 69 F_Fractions_orderTo_67 rfl (fun _ => rfl) ?_
                refine Rg.step 71 F_Fractions_orderTo_69 rfl (fun _ => rfl) ?_
                refine Rg.step 73 F_Fractions_orderTo_71 rfl (fun _ => rfl) ?_
                refine Rg.call 76 F_Fractions_orderTo_73 rfl (one_S (by decide +kernel) rM_3_46 (by decide) (by simp) rfl rfl) (Nat.le_of_ble_eq_true rfl) (c_floorDiv d he0) ?_
                refine Rg.step 78 F_Fractions_orderTo_76 rfl (fun _ => rfl) ?_
                refine Rg.step 80 F_Fractions_orderTo_78 rfl (fun _ => rfl) ?_
                refine Rg.step 82 F_Fractions_orderTo_80 rfl (fun _ => rfl) ?_
                refine Rg.step 83 F_Fractions_orderTo_82 rfl (fun _ => rfl) ?_
                refine Rg.ifeq 103 86 F_Fractions_orderTo_83 rfl rfl (fun _ => ?_) (fun h => absurd ((lg_cmp_eq _ _).mpr hx) h)
                refine Rg.step 105 F_Fractions_orderTo_103 rfl (fun _ => rfl) ?_
                refine Rg.step 107 F_Fractions_orderTo_105 rfl (fun _ => rfl) ?_
                refine Rg.step 109 F_Fractions_orderTo_107 rfl (fun _ => rfl) ?_
                refine Rg.step 110 F_Fractions_orderTo_109 rfl (fun _ => rfl) ?_
                refine Rg.step 111 F_Fractions_orderTo_110 rfl (fun _ => rfl) ?_
                refine Rg.step 113 F_Fractions_orderTo_111 rfl (fun _ => rfl) ?_
                refine Rg.step 115 F_Fractions_orderTo_113 rfl (fun _ => rfl) ?_
                refine Rg.step 117 F_Fractions_orderTo_115 rfl (fun _ => rfl) ?_
                refine Rg.step 119 F_Fractions_orderTo_117 rfl (fun _ => rfl) ?_
                refine Rg.step 120 F_Fractions_orderTo_119 rfl (fun _ => rfl) ?_
                refine Rg.step 121 F_Fractions_orderTo_120 rfl (fun _ => rfl) ?_
                refine Rg.step 123 F_Fractions_orderTo_121 rfl (fun _ => rfl) ?_
                refine Rg.step 125 F_Fractions_orderTo_123 rfl (fun _ => rfl) ?_
                refine Rg.step 126 F_Fractions_orderTo_125 rfl (fun _ => rfl) ?_
                refine Rg.step 127 F_Fractions_orderTo_126 rfl (fun _ => rfl) ?_
                refine Rg.ifeq 137 130 F_Fractions_orderTo_127 rfl rfl (fun h => absurd ((lg_cmp_eq _ _).mp h) hz) (fun _ => ?_)
                refine Rg.step 132 F_Fractions_orderTo_130 rfl (fun _ => rfl) ?_
                refine Rg.step 133 F_Fractions_orderTo_132 rfl (fun _ => rfl) ?_
                refine Rg.step 134 F_Fractions_orderTo_133 rfl (fun _ => rfl) ?_
                refine Rg.ifne 165 137 F_Fractions_orderTo_134 rfl rfl (fun h => absurd ((lg_cmp_eq _ _).mpr z2) h) (fun _ => ?_)
                refine Rg.step 139 F_Fractions_orderTo_137 rfl (fun _ => rfl) ?_
                refine Rg.step 141 F_Fractions_orderTo_139 rfl (fun _ => rfl) ?_
                refine Rg.step 142 F_Fractions_orderTo_141 rfl (fun _ => rfl) ?_
                refine Rg.ifne 149 145 F_Fractions_orderTo_142 rfl rfl (fun _ => ?_) (fun h => absurd ((lg_cmp_eq _ _).mp h) hq)
                refine Rg.step 151 F_Fractions_orderTo_149 rfl (fun _ => rfl) ?_
                refine Rg.step 152 F_Fractions_orderTo_151 rfl (fun _ => rfl) ?_
                refine Rg.step 153 F_Fractions_orderTo_152 rfl (fun _ => rfl) ?_
                refine Rg.ifne 162 156 F_Fractions_orderTo_153 rfl rfl (fun _ => ?_) (fun h => absurd ((lg_cmp_eq _ _).mp h) hz)
                refine Rg.step 164 F_Fractions_orderTo_162 rfl (fun _ => rfl) ?_
                exact Rg.ret F_Fractions_orderTo_164 rfl
          · have hr1 : ¬ a - flC a b * b = 0 := fun z => hr (Or.inl z)
            have hr2 : ¬ c - flC c e * e = 0 := fun z => hr (Or.inr z)
            have e1 : orC (n + 1) a b c e s = orC n b (a - flC a b * b) e (c - flC c e * e) (-s) := by
              conv => lhs; simp only [orC]
              rw [if_neg (by simp [hb, he]), if_neg (by simp [hx]), if_neg hr]
            rw [e1]
            refine Rg.step 40 F_Fractions_orderTo_38 rfl (fun _ => rfl) ?_
            refine Rg.step 43 F_Fractions_orderTo_40 rfl (fun _ => rfl) ?_
            refine Rg.icge 192 46 F_Fractions_orderTo_43 rfl rfl (fun h => absurd h (Int32.not_le.mpr hlt)) (fun _ => ?_)
            refine Rg.step 48 F_Fractions_orderTo_46 rfl (fun _ => rfl) ?_
            refine Rg.step 49 F_Fractions_orderTo_48 rfl (fun _ => rfl) ?_
            refine Rg.step 50 F_Fractions_orderTo_49 rfl (fun _ => rfl) ?_
            refine Rg.ifle 192 53 F_Fractions_orderTo_50 rfl rfl (fun h => absurd ((lg_cmp_le _ _).mp h) hb) (fun _ => ?_)
            refine Rg.step 55 F_Fractions_orderTo_53 rfl (fun _ => rfl) ?_
            refine Rg.step 56 F_Fractions_orderTo_55 rfl (fun _ => rfl) ?_
            refine Rg.step 57 F_Fractions_orderTo_56 rfl (fun _ => rfl) ?_
            refine Rg.ifle 192 60 F_Fractions_orderTo_57 rfl rfl (fun h => absurd ((lg_cmp_le _ _).mp h) he) (fun _ => ?_)
            refine Rg.step 62 F_Fractions_orderTo_60 rfl (fun _ => rfl) ?_
            refine Rg.step 64 F_Fractions_orderTo_62 rfl (fun _ => rfl) ?_
            refine Rg.call 67 F_Fractions_orderTo_64 rfl (one_S (by decide +kernel) rM_3_46 (by decide) (by simp) rfl rfl) (Nat.le_of_ble_eq_true rfl) (c_floorDiv d hb0) ?_
            refine Rg.step 69 F_Fractions_orderTo_67 rfl (fun _ => rfl) ?_
            refine Rg.step 71 F_Fractions_orderTo_69 rfl (fun _ => rfl) ?_
            refine Rg.step 73 F_Fractions_orderTo_71 rfl (fun _ => rfl) ?_
            refine Rg.call 76 F_Fractions_orderTo_73 rfl (one_S (by decide +kernel) rM_3_46 (by decide) (by simp) rfl rfl) (Nat.le_of_ble_eq_true rfl) (c_floorDiv d he0) ?_
            refine Rg.step 78 F_Fractions_orderTo_76 rfl (fun _ => rfl) ?_
            refine Rg.step 80 F_Fractions_orderTo_78 rfl (fun _ => rfl) ?_
            refine Rg.step 82 F_Fractions_orderTo_80 rfl (fun _ => rfl) ?_
            refine Rg.step 83 F_Fractions_orderTo_82 rfl (fun _ => rfl) ?_
            refine Rg.ifeq 103 86 F_Fractions_orderTo_83 rfl rfl (fun _ => ?_) (fun h => absurd ((lg_cmp_eq _ _).mpr hx) h)
            refine Rg.step 105 F_Fractions_orderTo_103 rfl (fun _ => rfl) ?_
            refine Rg.step 107 F_Fractions_orderTo_105 rfl (fun _ => rfl) ?_
            refine Rg.step 109 F_Fractions_orderTo_107 rfl (fun _ => rfl) ?_
            refine Rg.step 110 F_Fractions_orderTo_109 rfl (fun _ => rfl) ?_
            refine Rg.step 111 F_Fractions_orderTo_110 rfl (fun _ => rfl) ?_
            refine Rg.step 113 F_Fractions_orderTo_111 rfl (fun _ => rfl) ?_
            refine Rg.step 115 F_Fractions_orderTo_113 rfl (fun _ => rfl) ?_
            refine Rg.step 117 F_Fractions_orderTo_115 rfl (fun _ => rfl) ?_
            refine Rg.step 119 F_Fractions_orderTo_117 rfl (fun _ => rfl) ?_
            refine Rg.step 120 F_Fractions_orderTo_119 rfl (fun _ => rfl) ?_
            refine Rg.step 121 F_Fractions_orderTo_120 rfl (fun _ => rfl) ?_
            refine Rg.step 123 F_Fractions_orderTo_121 rfl (fun _ => rfl) ?_
            refine Rg.step 125 F_Fractions_orderTo_123 rfl (fun _ => rfl) ?_
            refine Rg.step 126 F_Fractions_orderTo_125 rfl (fun _ => rfl) ?_
            refine Rg.step 127 F_Fractions_orderTo_126 rfl (fun _ => rfl) ?_
            refine Rg.ifeq 137 130 F_Fractions_orderTo_127 rfl rfl (fun h => absurd ((lg_cmp_eq _ _).mp h) hr1) (fun _ => ?_)
            refine Rg.step 132 F_Fractions_orderTo_130 rfl (fun _ => rfl) ?_
            refine Rg.step 133 F_Fractions_orderTo_132 rfl (fun _ => rfl) ?_
            refine Rg.step 134 F_Fractions_orderTo_133 rfl (fun _ => rfl) ?_
            refine Rg.ifne 165 137 F_Fractions_orderTo_134 rfl rfl (fun _ => ?_) (fun h => absurd ((lg_cmp_eq _ _).mp h) hr2)
            refine Rg.step 167 F_Fractions_orderTo_165 rfl (fun _ => rfl) ?_
            refine Rg.step 169 F_Fractions_orderTo_167 rfl (fun _ => rfl) ?_
            refine Rg.step 171 F_Fractions_orderTo_169 rfl (fun _ => rfl) ?_
            refine Rg.step 173 F_Fractions_orderTo_171 rfl (fun _ => rfl) ?_
            refine Rg.step 175 F_Fractions_orderTo_173 rfl (fun _ => rfl) ?_
            refine Rg.step 177 F_Fractions_orderTo_175 rfl (fun _ => rfl) ?_
            refine Rg.step 179 F_Fractions_orderTo_177 rfl (fun _ => rfl) ?_
            refine Rg.step 181 F_Fractions_orderTo_179 rfl (fun _ => rfl) ?_
            refine Rg.step 183 F_Fractions_orderTo_181 rfl (fun _ => rfl) ?_
            refine Rg.step 184 F_Fractions_orderTo_183 rfl (fun _ => rfl) ?_
            refine Rg.step 186 F_Fractions_orderTo_184 rfl (fun _ => rfl) ?_
            refine Rg.step 189 F_Fractions_orderTo_186 rfl (fun _ => rfl) ?_
            rw [xI_succ]
            refine Rg.step 38 F_Fractions_orderTo_189 rfl (fun _ => rfl) ?_
            exact Rg.weak (ih (k + 1) b (a - flC a b * b) e (c - flC c e * e) (-s) (by omega)) (by simp [lput1, lput2, Value.category]) (by simp [lput1, lput2, Value.category])
        · by_cases hl : flC a b < flC c e
          · have e1 : orC (n + 1) a b c e s = -s := by simp only [orC]; rw [if_neg (by simp [hb, he]), if_pos hx, if_pos hl]
            rw [e1]
            refine Rg.step 40 F_Fractions_orderTo_38 rfl (fun _ => rfl) ?_
            refine Rg.step 43 F_Fractions_orderTo_40 rfl (fun _ => rfl) ?_
            refine Rg.icge 192 46 F_Fractions_orderTo_43 rfl rfl (fun h => absurd h (Int32.not_le.mpr hlt)) (fun _ => ?_)
            refine Rg.step 48 F_Fractions_orderTo_46 rfl (fun _ => rfl) ?_
            refine Rg.step 49 F_Fractions_orderTo_48 rfl (fun _ => rfl) ?_
            refine Rg.step 50 F_Fractions_orderTo_49 rfl (fun _ => rfl) ?_
            refine Rg.ifle 192 53 F_Fractions_orderTo_50 rfl rfl (fun h => absurd ((lg_cmp_le _ _).mp h) hb) (fun _ => ?_)
            refine Rg.step 55 F_Fractions_orderTo_53 rfl (fun _ => rfl) ?_
            refine Rg.step 56 F_Fractions_orderTo_55 rfl (fun _ => rfl) ?_
            refine Rg.step 57 F_Fractions_orderTo_56 rfl (fun _ => rfl) ?_
            refine Rg.ifle 192 60 F_Fractions_orderTo_57 rfl rfl (fun h => absurd ((lg_cmp_le _ _).mp h) he) (fun _ => ?_)
            refine Rg.step 62 F_Fractions_orderTo_60 rfl (fun _ => rfl) ?_
            refine Rg.step 64 F_Fractions_orderTo_62 rfl (fun _ => rfl) ?_
            refine Rg.call 67 F_Fractions_orderTo_64 rfl (one_S (by decide +kernel) rM_3_46 (by decide) (by simp) rfl rfl) (Nat.le_of_ble_eq_true rfl) (c_floorDiv d hb0) ?_
            refine Rg.step 69 F_Fractions_orderTo_67 rfl (fun _ => rfl) ?_
            refine Rg.step 71 F_Fractions_orderTo_69 rfl (fun _ => rfl) ?_
            refine Rg.step 73 F_Fractions_orderTo_71 rfl (fun _ => rfl) ?_
            refine Rg.call 76 F_Fractions_orderTo_73 rfl (one_S (by decide +kernel) rM_3_46 (by decide) (by simp) rfl rfl) (Nat.le_of_ble_eq_true rfl) (c_floorDiv d he0) ?_
            refine Rg.step 78 F_Fractions_orderTo_76 rfl (fun _ => rfl) ?_
            refine Rg.step 80 F_Fractions_orderTo_78 rfl (fun _ => rfl) ?_
            refine Rg.step 82 F_Fractions_orderTo_80 rfl (fun _ => rfl) ?_
            refine Rg.step 83 F_Fractions_orderTo_82 rfl (fun _ => rfl) ?_
            refine Rg.ifeq 103 86 F_Fractions_orderTo_83 rfl rfl (fun h => absurd ((lg_cmp_eq _ _).mp h) hx) (fun _ => ?_)
            refine Rg.step 88 F_Fractions_orderTo_86 rfl (fun _ => rfl) ?_
            refine Rg.step 90 F_Fractions_orderTo_88 rfl (fun _ => rfl) ?_
            refine Rg.step 91 F_Fractions_orderTo_90 rfl (fun _ => rfl) ?_
            refine Rg.ifge 100 94 F_Fractions_orderTo_91 rfl rfl (fun h => absurd ((lg_cmp_ge _ _).mp h) (Int64.not_le.mpr hl)) (fun _ => ?_)
            refine Rg.step 96 F_Fractions_orderTo_94 rfl (fun _ => rfl) ?_
            refine Rg.step 97 F_Fractions_orderTo_96 rfl (fun _ => rfl) ?_
            refine Rg.step 102 F_Fractions_orderTo_97 rfl (fun _ => rfl) ?_
            exact Rg.ret F_Fractions_orderTo_102 rfl
          · have e1 : orC (n + 1) a b c e s = s := by simp only [orC]; rw [if_neg (by simp [hb, he]), if_pos hx, if_neg hl]
            rw [e1]
            refine Rg.step 40 F_Fractions_orderTo_38 rfl (fun _ => rfl) ?_
            refine Rg.step 43 F_Fractions_orderTo_40 rfl (fun _ => rfl) ?_
            refine Rg.icge 192 46 F_Fractions_orderTo_43 rfl rfl (fun h => absurd h (Int32.not_le.mpr hlt)) (fun _ => ?_)
            refine Rg.step 48 F_Fractions_orderTo_46 rfl (fun _ => rfl) ?_
            refine Rg.step 49 F_Fractions_orderTo_48 rfl (fun _ => rfl) ?_
            refine Rg.step 50 F_Fractions_orderTo_49 rfl (fun _ => rfl) ?_
            refine Rg.ifle 192 53 F_Fractions_orderTo_50 rfl rfl (fun h => absurd ((lg_cmp_le _ _).mp h) hb) (fun _ => ?_)
            refine Rg.step 55 F_Fractions_orderTo_53 rfl (fun _ => rfl) ?_
            refine Rg.step 56 F_Fractions_orderTo_55 rfl (fun _ => rfl) ?_
            refine Rg.step 57 F_Fractions_orderTo_56 rfl (fun _ => rfl) ?_
            refine Rg.ifle 192 60 F_Fractions_orderTo_57 rfl rfl (fun h => absurd ((lg_cmp_le _ _).mp h) he) (fun _ => ?_)
            refine Rg.step 62 F_Fractions_orderTo_60 rfl (fun _ => rfl) ?_
            refine Rg.step 64 F_Fractions_orderTo_62 rfl (fun _ => rfl) ?_
            refine Rg.call 67 F_Fractions_orderTo_64 rfl (one_S (by decide +kernel) rM_3_46 (by decide) (by simp) rfl rfl) (Nat.le_of_ble_eq_true rfl) (c_floorDiv d hb0) ?_
            refine Rg.step 69 F_Fractions_orderTo_67 rfl (fun _ => rfl) ?_
            refine Rg.step 71 F_Fractions_orderTo_69 rfl (fun _ => rfl) ?_
            refine Rg.step 73 F_Fractions_orderTo_71 rfl (fun _ => rfl) ?_
            refine Rg.call 76 F_Fractions_orderTo_73 rfl (one_S (by decide +kernel) rM_3_46 (by decide) (by simp) rfl rfl) (Nat.le_of_ble_eq_true rfl) (c_floorDiv d he0) ?_
            refine Rg.step 78 F_Fractions_orderTo_76 rfl (fun _ => rfl) ?_
            refine Rg.step 80 F_Fractions_orderTo_78 rfl (fun _ => rfl) ?_
            refine Rg.step 82 F_Fractions_orderTo_80 rfl (fun _ => rfl) ?_
            refine Rg.step 83 F_Fractions_orderTo_82 rfl (fun _ => rfl) ?_
            refine Rg.ifeq 103 86 F_Fractions_orderTo_83 rfl rfl (fun h => absurd ((lg_cmp_eq _ _).mp h) hx) (fun _ => ?_)
            refine Rg.step 88 F_Fractions_orderTo_86 rfl (fun _ => rfl) ?_
            refine Rg.step 90 F_Fractions_orderTo_88 rfl (fun _ => rfl) ?_
            refine Rg.step 91 F_Fractions_orderTo_90 rfl (fun _ => rfl) ?_
            refine Rg.ifge 100 94 F_Fractions_orderTo_91 rfl rfl (fun _ => ?_) (fun h => absurd ((lg_cmp_ge _ _).mpr (Int64.not_lt.mp hl)) h)
            refine Rg.step 102 F_Fractions_orderTo_100 rfl (fun _ => rfl) ?_
            exact Rg.ret F_Fractions_orderTo_102 rfl
/-- the order of two fractions as the code finds it -/
def ordC (a b c e : Int64) : Int32 := orC 200 a b c e 1
theorem c_Fr_orderTo (d : Nat) {mem : AM} {a u v b u' v' i j : Nat} {U D U' D' : List Int64} {x1 y1 x2 y2 : Int64} (ha : FR mem a u v U D) (hb : FR mem b u' v' U' D') (h1 : U[i]? = some x1) (h2 : D[i]? = some y1) (h3 : U'[j]? = some x2) (h4 : D'[j]? = some y2) : Cg true (d + 1) m_Fractions_orderTo [.ref a, .int (nI i), .ref b, .int (nI j)] mem (.inl (some (.int (ordC x1 y1 x2 y2)))) mem := by
  have hi : i < 2 ^ 31 := lt31 (List.getElem?_eq_some_iff.mp h1).1 ha.2.2.2.2.2.2.2
  have hj : j < 2 ^ 31 := lt31 (List.getElem?_eq_some_iff.mp h3).1 hb.2.2.2.2.2.2.2
  refine Cg.of (Nat.le_of_ble_eq_true rfl) ?_
  change Rg _ _ _ _ 0 [(0, .ref a), (1, .int (nI i)), (2, .ref b), (3, .int (nI j))] [] _ _ _
  refine Rg.step 1 F_Fractions_orderTo_0 rfl (fun _ => rfl) ?_
  refine Rg.getf 4 F_Fractions_orderTo_1 rfl rF_3_9 ha.1 rfl ?_
  refine Rg.step 5 F_Fractions_orderTo_4 rfl (fun _ => rfl) ?_
  refine Rg.lald 6 F_Fractions_orderTo_5 rfl ha.2.1 (ix_nI hi) (LV_get h1) ?_
  refine Rg.step 8 F_Fractions_orderTo_6 rfl (fun _ => rfl) ?_
  refine Rg.step 9 F_Fractions_orderTo_8 rfl (fun _ => rfl) ?_
  refine Rg.getf 12 F_Fractions_orderTo_9 rfl rF_3_15 ha.1 rfl ?_
  refine Rg.step 13 F_Fractions_orderTo_12 rfl (fun _ => rfl) ?_
  refine Rg.lald 14 F_Fractions_orderTo_13 rfl ha.2.2.1 (ix_nI hi) (LV_get h2) ?_
  refine Rg.step 16 F_Fractions_orderTo_14 rfl (fun _ => rfl) ?_
  refine Rg.step 17 F_Fractions_orderTo_16 rfl (fun _ => rfl) ?_
  refine Rg.getf 20 F_Fractions_orderTo_17 rfl rF_3_9 hb.1 rfl ?_
  refine Rg.step 21 F_Fractions_orderTo_20 rfl (fun _ => rfl) ?_
  refine Rg.lald 22 F_Fractions_orderTo_21 rfl hb.2.1 (ix_nI hj) (LV_get h3) ?_
  refine Rg.step 24 F_Fractions_orderTo_22 rfl (fun _ => rfl) ?_
  refine Rg.step 25 F_Fractions_orderTo_24 rfl (fun _ => rfl) ?_
  refine Rg.getf 28 F_Fractions_orderTo_25 rfl rF_3_15 hb.1 rfl ?_
  refine Rg.step 29 F_Fractions_orderTo_28 rfl (fun _ => rfl) ?_
  refine Rg.lald 30 F_Fractions_orderTo_29 rfl hb.2.2.1 (ix_nI hj) (LV_get h4) ?_
  refine Rg.step 32 F_Fractions_orderTo_30 rfl (fun _ => rfl) ?_
  refine Rg.step 33 F_Fractions_orderTo_32 rfl (fun _ => rfl) ?_
  refine Rg.step 35 F_Fractions_orderTo_33 rfl (fun _ => rfl) ?_
  refine Rg.step 36 F_Fractions_orderTo_35 rfl (fun _ => rfl) ?_
  refine Rg.step 38 F_Fractions_orderTo_36 rfl (fun _ => rfl) ?_
  exact Rg.weak (or_loop 200 0 x1 y1 x2 y2 1 (by omega)) (by simp [lput1, lput2, Value.category]; rfl) (by simp [lput1, lput2, Value.category])
