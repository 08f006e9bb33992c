/-! The class: the times of a row. -/
theorem mx_l (a b : Int) : a ≤ mx a b := by unfold mx; split <;> omega
theorem mx_r (a b : Int) : b ≤ mx a b := by unfold mx; split <;> omega
theorem mx_e (a b : Int) : mx a b = a ∨ mx a b = b := by
  unfold mx
  split
  · exact Or.inr rfl
  · exact Or.inl rfl
theorem Sol_c2 {m R : Int} {row : Int → Int} {I : Int → Int → Prop} {E : Int} {L L1 : Int → Int} {has has1 : Int → Prop} {G G1 : Int → Int} (hL : ∀ s, 0 ≤ s → s < m → L1 s = L s) (hh : ∀ s, 0 ≤ s → s < m → (has1 s ↔ has s)) (hG : ∀ s, 0 ≤ s → s < m → has s → G1 s = G s) {t : Int → Int} : Sol m R row I E L1 has1 G1 t ↔ Sol m R row I E L has G t := by
  refine and_congr_right (fun _ => and_congr_right (fun _ => and_congr ?_ ?_))
  · refine forall_congr' (fun s => forall_congr' (fun z1 => forall_congr' (fun z2 => ?_)))
    rw [hL s z1 z2]
  · refine forall_congr' (fun s => forall_congr' (fun z1 => forall_congr' (fun z2 => ?_)))
    constructor
    · intro h z
      have := h ((hh s z1 z2).mpr z)
      rw [hG s z1 z2 z] at this
      exact this
    · intro h z
      have y := (hh s z1 z2).mp z
      rw [hG s z1 z2 y]
      exact h y
theorem cls_cnt {n : Nat} {R m : Int} {r arL arS L G : Int → Int} {H : Int → Prop} {E : Int} (hn : (n : Int) = R) (hS : ∀ k, 0 ≤ k → k < R → ¬ r k % 2 = 0 → 0 ≤ arS (r k / 2) ∧ arS (r k / 2) < R ∧ 0 ≤ r k / 2 ∧ r k / 2 < m) (hL : ∀ k, 0 ≤ k → k < R → ¬ arL k = -1 → 0 ≤ arL k ∧ arL k < R) {u t a b : Int → Int} {A : Prop} {c : Int} {j : Nat} (hu : MinU (UP R r arL arS L G H E) n u) (h0 : ∀ k, t k ≤ u k) (hta : ∀ k, t k ≤ a k) (ha0 : ∀ k, 0 ≤ a k) (hau : ∀ k, a k ≤ u k) (hF : Fwd R r arL arS L E a) (hi : LInv R (UP R r arL arS L G H E) a b A c) (hB : Bwd R r arS G H a b) (hA : A) (hj : j ≤ cntP (fun s => t (arS s) = u (arS s)) m.toNat) : j + 1 ≤ cntP (fun s => b (arS s) = u (arS s)) m.toNat := by
  have hbu := hi.2.2.1 u hu.1 hau
  have hne : ∃ k : Int, 0 ≤ k ∧ k < n ∧ ¬ a k = u k := by
    refine Classical.byContradiction (fun z => hi.2.1.mp hA (funext (fun p => ?_)))
    by_cases hp : 0 ≤ p ∧ p < (n : Int)
    · have e : a p = u p := Classical.byContradiction (fun y => z ⟨p, hp.1, hp.2, y⟩)
      have := hbu p
      have := hi.1 p
      omega
    · exact hi.2.2.2.2 p (fun z => hp ⟨z.1, by omega⟩)
  obtain ⟨s, s1, s2, s3, s4⟩ := cls_step (m := m) hn hS hL hu ha0 hau hbu hF hB hne
  have hlt := cntP_lt (A := fun s => b (arS s) = u (arS s)) (B := fun s => t (arS s) = u (arS s)) (p := s) s1 s4 (fun z => by
    have := hta (arS s)
    have := hau (arS s)
    omega) m.toNat (by omega) (fun q _ _ z => by
    have := hta (arS q)
    have := hi.1 (arS q)
    have := hbu (arS q)
    omega)
  omega
theorem cls_none {U : (Int → Int) → Prop} {n c : Nat} (hU : ∀ u, U u → ∀ p, 0 ≤ u p) {A : (Int → Int) → Int → Prop} (h : ∀ u, MinU U n u → c + 1 ≤ cntP (A u) c) : ¬ ∃ u, U u := by
  rintro ⟨u, hu⟩
  obtain ⟨v, hv⟩ := MinU_ex n hU (sumI u n).toNat u hu (by have := sumI_nn (hU u hu) n; omega)
  have := h v hv
  have := cntP_b (A v) c
  omega

section R76
variable {s0 s1 : AC} {rest : AM} {ab : Int → Nat}
variable {alS alM plS plP veW veF veP juP arP arB arU arF : Int}
variable {handN handD fiN fiD epN epD goH goN goD plA plBN plBD plLN plLD plR vsN vsD juTN juTD juO scN scD noN noD neN neD arR arL arT arA arS leN leD grN grD arLU arGU shN shD : Int → Int}
variable {stN stD : Int → Int → Int}
variable {stF : Int → Int → Prop}
variable {gT gF fiF plM vsF juM noF neF arM arH : Int → Prop}
variable {alE : Nat}
variable {code amountN amountD momentN momentD epsilonN epsilonD actions steps rows tried triedRows unit point judged fault faultPoint outN outD : Int}
variable {firstN firstD wishes wants wantN wantD needs needTime needOf needHow needN needD changes changeTime changeOf changeHow changeN changeD lastOf lastN lastD stepAction startN startD lengthN lengthD row triedAction triedRow times numN numD oldN oldD toldN toldD pointN pointD leastN leastD greatestN greatestD events : Int → Int}
variable {firstFacts facts oldFacts toldFacts gone now : Int → Prop}
variable {R Eu m u : Int}
theorem dp_loop {d n0 : Nat} (hR : 0 ≤ R ∧ R ≤ 24) (hr : ∀ i, 0 ≤ i → i < R → 0 ≤ arR i ∧ arR i < 24) (hL : ∀ i, 0 ≤ i → i < R → -1 ≤ arL i ∧ arL i < 24 ∧ (¬ arL i = -1 → 0 ≤ arL i ∧ arL i < i)) (hS : ∀ i, 0 ≤ i → i < R → ¬ arR i % 2 = 0 → 0 ≤ arS (arR i / 2) ∧ arS (arR i / 2) < i ∧ arR (arS (arR i / 2)) % 2 = 0) (hLU : ∀ i, 0 ≤ i → i < R → 0 ≤ arLU (arR i / 2) ∧ arLU (arR i / 2) ≤ 1000000000) (hGU : ∀ i, 0 ≤ i → i < R → 0 ≤ arGU (arR i / 2) ∧ arGU (arR i / 2) ≤ 1000000000) (hEu : 0 ≤ Eu ∧ Eu ≤ 1000000000) {t0 : Int → Int} {b : Int} (hb : 0 ≤ b ∧ b ≤ 10000000000000) : ∀ (n : Nat) (k : Int) (t : Int → Int), k + n = R → 0 ≤ k → DPI R arR arL arS arLU Eu (UP R arR arL arS arLU arGU arH Eu) t0 b k t → ∃ t1, DPI R arR arL arS arLU Eu (UP R arR arL arS arLU arGU arH Eu) t0 b R t1 ∧ Rg false (d + 1) m_Arranger_delayPoints n0 2 [(3, .int (iI k)), (0, .ref 49), (1, .long (lI Eu))] [] (MC s0 s1 handN handD gT gF alE actions alM fiF fiN fiD epN epD goH goN goD plS plP plM plA plBN plBD plLN plLD plR veW veF veP vsF vsN vsD juM juP juTN juTD juO scN scD noF noN noD neF neN neD R arB arM arU arF arR arL t arA arS leN leD grN grD arH arLU arGU shN shD stF stN stD rest) (.inl none) (MC s0 s1 handN handD gT gF alE actions alM fiF fiN fiD epN epD goH goN goD plS plP plM plA plBN plBD plLN plLD plR veW veF veP vsF vsN vsD juM juP juTN juTD juO scN scD noF noN noD neF neN neD R arB arM arU arF arR arL t1 arA arS leN leD grN grD arH arLU arGU shN shD stF stN stD rest) := by
  intro n
  induction n with
  | zero =>
    intro k t hk hk2 hI
    have ek : k = R := by omega
    subst ek
    refine ⟨t, hI, ?_⟩
    refine Rg.step 3 F_Arranger_delayPoints_2 rfl (fun _ => rfl) ?_
    refine Rg.step 4 F_Arranger_delayPoints_3 rfl (fun _ => rfl) ?_
    refine Rg.getf 7 F_Arranger_delayPoints_4 rfl rF_13_64 gC_49 rfl ?_
    refine Rg.icgeI 130 10 F_Arranger_delayPoints_7 rfl rfl (by omega) (by omega) (fun _ => ?_) (fun h7 => by omega)
    exact Rg.retV F_Arranger_delayPoints_130 rfl rfl
  | succ n ih =>
    intro k t hk hk2 hI
    have r1 := hr k hk2 (by omega)
    obtain ⟨l1, l2, l3⟩ := hL k hk2 (by omega)
    have lu := hLU k hk2 (by omega)
    have tb := hI.2.2.2.1
    have tk := tb k
    have tp := tb (k - 1)
    have tl := tb (arL k)
    have ts := tb (arS (arR k / 2))
    have hL9 : ∀ i, 0 ≤ i → i ≤ k → ¬ arL i = -1 → 0 ≤ arL i ∧ arL i < i := fun i z1 z2 => (hL i z1 (by omega)).2.2
    have hS9 : ∀ i, 0 ≤ i → i ≤ k → ¬ arR i % 2 = 0 → 0 ≤ arS (arR i / 2) ∧ arS (arR i / 2) < i := fun i z1 z2 z3 => by have := hS i z1 (by omega) z3; omega
    by_cases hp : 0 < k
    · by_cases hl : ¬ arL k = -1
      · by_cases ho : ¬ arR k % 2 = 0
        · skip
          have f0 := mx_l (t (k - 1)) (t (arL k) + Eu)
          have f1 := mx_r (t (k - 1)) (t (arL k) + Eu)
          have f2 := mx_e (t (k - 1)) (t (arL k) + Eu)
          have f3 := mx_l (mx (t (k - 1)) (t (arL k) + Eu)) (t (arS (arR k / 2)) + arLU (arR k / 2))
          have f4 := mx_r (mx (t (k - 1)) (t (arL k) + Eu)) (t (arS (arR k / 2)) + arLU (arR k / 2))
          have f5 := mx_e (mx (t (k - 1)) (t (arL k) + Eu)) (t (arS (arR k / 2)) + arLU (arR k / 2))
          have f6 := mx_l (mx (mx (t (k - 1)) (t (arL k) + Eu)) (t (arS (arR k / 2)) + arLU (arR k / 2))) (t k)
          have f7 := mx_r (mx (mx (t (k - 1)) (t (arL k) + Eu)) (t (arS (arR k / 2)) + arLU (arR k / 2))) (t k)
          have f8 := mx_e (mx (mx (t (k - 1)) (t (arL k) + Eu)) (t (arS (arR k / 2)) + arLU (arR k / 2))) (t k)
          have s9 := hS k hk2 (by omega) ho
          have l9 := l3 hl
          have hst := hI.step hk2 (by omega) hL9 hS9 (v := (mx (mx (mx (t (k - 1)) (t (arL k) + Eu)) (t (arS (arR k / 2)) + arLU (arR k / 2))) (t k))) (by omega) (fun z => by omega) (fun z => by first | omega | exact absurd z (by omega)) (fun z => by first | omega | exact absurd z (by omega)) (fun w hu hw => by
            have w0 := hw k
            have w1 := hw (k - 1)
            have w2 := hw (arL k)
            have w3 := hw (arS (arR k / 2))
            have w4 := hu.1 k
            have w5 := hu.2.1.1 k (by omega) (by omega)
            have w6 := hu.2.1.2.1 k hk2 (by omega) hl
            have w7 := hu.2.1.2.2 k hk2 (by omega) ho
            omega) (by omega)
          obtain ⟨t1, j1, ht⟩ := ih (k + 1) (up1 t k (mx (mx (mx (t (k - 1)) (t (arL k) + Eu)) (t (arS (arR k / 2)) + arLU (arR k / 2))) (t k))) (by omega) (by omega) hst
          refine ⟨t1, j1, ?_⟩
          refine Rg.step 3 F_Arranger_delayPoints_2 rfl (fun _ => rfl) ?_
          refine Rg.step 4 F_Arranger_delayPoints_3 rfl (fun _ => rfl) ?_
          refine Rg.getf 7 F_Arranger_delayPoints_4 rfl rF_13_64 gC_49 rfl ?_
          refine Rg.icgeI 130 10 F_Arranger_delayPoints_7 rfl rfl (by omega) (by omega) (fun h7 => by omega) (fun _ => ?_)
          refine Rg.step 11 F_Arranger_delayPoints_10 rfl (fun _ => rfl) ?_
          refine Rg.ifleI 25 14 F_Arranger_delayPoints_11 rfl rfl (by omega) (fun h11 => by omega) (fun _ => ?_)
          refine Rg.step 15 F_Arranger_delayPoints_14 rfl (fun _ => rfl) ?_
          refine Rg.getf 18 F_Arranger_delayPoints_15 rfl rF_13_24 gC_49 rfl ?_
          refine Rg.step 19 F_Arranger_delayPoints_18 rfl (fun _ => rfl) ?_
          refine Rg.step 20 F_Arranger_delayPoints_19 rfl (fun _ => rfl) ?_
          refine Rg.subI 21 F_Arranger_delayPoints_20 rfl ?_
          refine Rg.lld 22 F_Arranger_delayPoints_21 rfl gC_53 (by omega) (by decide) ?_
          refine Rg.step 26 F_Arranger_delayPoints_22 rfl (fun _ => rfl) ?_
          refine Rg.step 28 F_Arranger_delayPoints_26 rfl (fun _ => rfl) ?_
          refine Rg.step 29 F_Arranger_delayPoints_28 rfl (fun _ => rfl) ?_
          refine Rg.getf 32 F_Arranger_delayPoints_29 rfl rF_13_21 gC_49 rfl ?_
          refine Rg.step 33 F_Arranger_delayPoints_32 rfl (fun _ => rfl) ?_
          refine Rg.ild 34 F_Arranger_delayPoints_33 rfl gC_52 (by omega) (by decide) ?_
          refine Rg.step 35 F_Arranger_delayPoints_34 rfl (fun _ => rfl) ?_
          refine Rg.iceqI 58 38 F_Arranger_delayPoints_35 rfl rfl (by omega) (by omega) (fun h35 => absurd h35 hl) (fun _ => ?_)
          refine Rg.step 40 F_Arranger_delayPoints_38 rfl (fun _ => rfl) ?_
          refine Rg.step 41 F_Arranger_delayPoints_40 rfl (fun _ => rfl) ?_
          refine Rg.getf 44 F_Arranger_delayPoints_41 rfl rF_13_24 gC_49 rfl ?_
          refine Rg.step 45 F_Arranger_delayPoints_44 rfl (fun _ => rfl) ?_
          refine Rg.getf 48 F_Arranger_delayPoints_45 rfl rF_13_21 gC_49 rfl ?_
          refine Rg.step 49 F_Arranger_delayPoints_48 rfl (fun _ => rfl) ?_
          refine Rg.ild 50 F_Arranger_delayPoints_49 rfl gC_52 (by omega) (by decide) ?_
          refine Rg.lld 51 F_Arranger_delayPoints_50 rfl gC_53 (by omega) (by decide) ?_
          refine Rg.step 52 F_Arranger_delayPoints_51 rfl (fun _ => rfl) ?_
          refine Rg.addL 53 F_Arranger_delayPoints_52 rfl ?_
          refine Rg.call 56 F_Arranger_delayPoints_53 rfl (one_S (by decide +kernel) rM_13_227 (by decide) (by simp) rfl rfl) (Nat.le_of_ble_eq_true rfl) (Cg.any (c_max2 (by omega) (by omega))) ?_
          refine Rg.step 58 F_Arranger_delayPoints_56 rfl (fun _ => rfl) ?_
          refine Rg.step 59 F_Arranger_delayPoints_58 rfl (fun _ => rfl) ?_
          refine Rg.getf 62 F_Arranger_delayPoints_59 rfl rF_13_17 gC_49 rfl ?_
          refine Rg.step 63 F_Arranger_delayPoints_62 rfl (fun _ => rfl) ?_
          refine Rg.ild 64 F_Arranger_delayPoints_63 rfl gC_51 (by omega) (by decide) ?_
          refine Rg.call 67 F_Arranger_delayPoints_64 rfl (one_S (by decide +kernel) rM_13_134 (by decide) (by simp) rfl rfl) (Nat.le_of_ble_eq_true rfl) (Cg.any (c_PJ_isEnd (by omega))) ?_
          refine Rg.ifeqP 107 70 F_Arranger_delayPoints_67 rfl rfl (fun h67 => absurd ho h67) (fun _ => ?_)
          refine Rg.step 71 F_Arranger_delayPoints_70 rfl (fun _ => rfl) ?_
          refine Rg.getf 74 F_Arranger_delayPoints_71 rfl rF_13_17 gC_49 rfl ?_
          refine Rg.step 75 F_Arranger_delayPoints_74 rfl (fun _ => rfl) ?_
          refine Rg.ild 76 F_Arranger_delayPoints_75 rfl gC_51 (by omega) (by decide) ?_
          refine Rg.step 77 F_Arranger_delayPoints_76 rfl (fun _ => rfl) ?_
          refine Rg.divIp 78 F_Arranger_delayPoints_77 rfl (by omega) (by omega) ?_
          refine Rg.step 80 F_Arranger_delayPoints_78 rfl (fun _ => rfl) ?_
          refine Rg.step 82 F_Arranger_delayPoints_80 rfl (fun _ => rfl) ?_
          refine Rg.step 83 F_Arranger_delayPoints_82 rfl (fun _ => rfl) ?_
          refine Rg.getf 86 F_Arranger_delayPoints_83 rfl rF_13_24 gC_49 rfl ?_
          refine Rg.step 87 F_Arranger_delayPoints_86 rfl (fun _ => rfl) ?_
          refine Rg.getf 90 F_Arranger_delayPoints_87 rfl rF_13_31 gC_49 rfl ?_
          refine Rg.step 92 F_Arranger_delayPoints_90 rfl (fun _ => rfl) ?_
          refine Rg.ild 93 F_Arranger_delayPoints_92 rfl gC_55 (by omega) (by decide) ?_
          refine Rg.lld 94 F_Arranger_delayPoints_93 rfl gC_53 (by omega) (by decide) ?_
          refine Rg.step 95 F_Arranger_delayPoints_94 rfl (fun _ => rfl) ?_
          refine Rg.getf 98 F_Arranger_delayPoints_95 rfl rF_13_50 gC_49 rfl ?_
          refine Rg.step 100 F_Arranger_delayPoints_98 rfl (fun _ => rfl) ?_
          refine Rg.lld 101 F_Arranger_delayPoints_100 rfl gC_63 (by omega) (by decide) ?_
          refine Rg.addL 102 F_Arranger_delayPoints_101 rfl ?_
          refine Rg.call 105 F_Arranger_delayPoints_102 rfl (one_S (by decide +kernel) rM_13_227 (by decide) (by simp) rfl rfl) (Nat.le_of_ble_eq_true rfl) (Cg.any (c_max2 (by omega) (by omega))) ?_
          refine Rg.step 107 F_Arranger_delayPoints_105 rfl (fun _ => rfl) ?_
          refine Rg.step 108 F_Arranger_delayPoints_107 rfl (fun _ => rfl) ?_
          refine Rg.getf 111 F_Arranger_delayPoints_108 rfl rF_13_24 gC_49 rfl ?_
          refine Rg.step 112 F_Arranger_delayPoints_111 rfl (fun _ => rfl) ?_
          refine Rg.step 114 F_Arranger_delayPoints_112 rfl (fun _ => rfl) ?_
          refine Rg.step 115 F_Arranger_delayPoints_114 rfl (fun _ => rfl) ?_
          refine Rg.getf 118 F_Arranger_delayPoints_115 rfl rF_13_24 gC_49 rfl ?_
          refine Rg.step 119 F_Arranger_delayPoints_118 rfl (fun _ => rfl) ?_
          refine Rg.lld 120 F_Arranger_delayPoints_119 rfl gC_53 (by omega) (by decide) ?_
          refine Rg.call 123 F_Arranger_delayPoints_120 rfl (one_S (by decide +kernel) rM_13_227 (by decide) (by simp) rfl rfl) (Nat.le_of_ble_eq_true rfl) (Cg.any (c_max2 (by omega) (by omega))) ?_
          refine Rg.lst 124 F_Arranger_delayPoints_123 rfl gC_53 (by decide) sC_arT (by omega) (by decide) ?_
          refine Rg.inc 127 F_Arranger_delayPoints_124 rfl rfl (by decide) ?_
          refine Rg.step 2 F_Arranger_delayPoints_127 rfl (fun _ => rfl) ?_
          exact Rg.weak ht (by simp [lput1, lput2, Value.category, fi0, fi1, fi2, fi3] <;> first | rfl | exact ⟨rfl, rfl⟩) (by simp [lput1, lput2, Value.category, fi0, fi1, fi2, fi3] <;> first | rfl | exact ⟨rfl, rfl⟩)
        · skip
          have f0 := mx_l (t (k - 1)) (t (arL k) + Eu)
          have f1 := mx_r (t (k - 1)) (t (arL k) + Eu)
          have f2 := mx_e (t (k - 1)) (t (arL k) + Eu)
          have f3 := mx_l (mx (t (k - 1)) (t (arL k) + Eu)) (t k)
          have f4 := mx_r (mx (t (k - 1)) (t (arL k) + Eu)) (t k)
          have f5 := mx_e (mx (t (k - 1)) (t (arL k) + Eu)) (t k)
          have l9 := l3 hl
          have hst := hI.step hk2 (by omega) hL9 hS9 (v := (mx (mx (t (k - 1)) (t (arL k) + Eu)) (t k))) (by omega) (fun z => by omega) (fun z => by first | omega | exact absurd z (by omega)) (fun z => by first | omega | exact absurd z (by omega)) (fun w hu hw => by
            have w0 := hw k
            have w1 := hw (k - 1)
            have w2 := hw (arL k)
            have w3 := hw (arS (arR k / 2))
            have w4 := hu.1 k
            have w5 := hu.2.1.1 k (by omega) (by omega)
            have w6 := hu.2.1.2.1 k hk2 (by omega) hl
            omega) (by omega)
          obtain ⟨t1, j1, ht⟩ := ih (k + 1) (up1 t k (mx (mx (t (k - 1)) (t (arL k) + Eu)) (t k))) (by omega) (by omega) hst
          refine ⟨t1, j1, ?_⟩
          refine Rg.step 3 F_Arranger_delayPoints_2 rfl (fun _ => rfl) ?_
          refine Rg.step 4 F_Arranger_delayPoints_3 rfl (fun _ => rfl) ?_
          refine Rg.getf 7 F_Arranger_delayPoints_4 rfl rF_13_64 gC_49 rfl ?_
          refine Rg.icgeI 130 10 F_Arranger_delayPoints_7 rfl rfl (by omega) (by omega) (fun h7 => by omega) (fun _ => ?_)
          refine Rg.step 11 F_Arranger_delayPoints_10 rfl (fun _ => rfl) ?_
          refine Rg.ifleI 25 14 F_Arranger_delayPoints_11 rfl rfl (by omega) (fun h11 => by omega) (fun _ => ?_)
          refine Rg.step 15 F_Arranger_delayPoints_14 rfl (fun _ => rfl) ?_
          refine Rg.getf 18 F_Arranger_delayPoints_15 rfl rF_13_24 gC_49 rfl ?_
          refine Rg.step 19 F_Arranger_delayPoints_18 rfl (fun _ => rfl) ?_
          refine Rg.step 20 F_Arranger_delayPoints_19 rfl (fun _ => rfl) ?_
          refine Rg.subI 21 F_Arranger_delayPoints_20 rfl ?_
          refine Rg.lld 22 F_Arranger_delayPoints_21 rfl gC_53 (by omega) (by decide) ?_
          refine Rg.step 26 F_Arranger_delayPoints_22 rfl (fun _ => rfl) ?_
          refine Rg.step 28 F_Arranger_delayPoints_26 rfl (fun _ => rfl) ?_
          refine Rg.step 29 F_Arranger_delayPoints_28 rfl (fun _ => rfl) ?_
          refine Rg.getf 32 F_Arranger_delayPoints_29 rfl rF_13_21 gC_49 rfl ?_
          refine Rg.step 33 F_Arranger_delayPoints_32 rfl (fun _ => rfl) ?_
          refine Rg.ild 34 F_Arranger_delayPoints_33 rfl gC_52 (by omega) (by decide) ?_
          refine Rg.step 35 F_Arranger_delayPoints_34 rfl (fun _ => rfl) ?_
          refine Rg.iceqI 58 38 F_Arranger_delayPoints_35 rfl rfl (by omega) (by omega) (fun h35 => absurd h35 hl) (fun _ => ?_)
          refine Rg.step 40 F_Arranger_delayPoints_38 rfl (fun _ => rfl) ?_
          refine Rg.step 41 F_Arranger_delayPoints_40 rfl (fun _ => rfl) ?_
          refine Rg.getf 44 F_Arranger_delayPoints_41 rfl rF_13_24 gC_49 rfl ?_
          refine Rg.step 45 F_Arranger_delayPoints_44 rfl (fun _ => rfl) ?_
          refine Rg.getf 48 F_Arranger_delayPoints_45 rfl rF_13_21 gC_49 rfl ?_
          refine Rg.step 49 F_Arranger_delayPoints_48 rfl (fun _ => rfl) ?_
          refine Rg.ild 50 F_Arranger_delayPoints_49 rfl gC_52 (by omega) (by decide) ?_
          refine Rg.lld 51 F_Arranger_delayPoints_50 rfl gC_53 (by omega) (by decide) ?_
          refine Rg.step 52 F_Arranger_delayPoints_51 rfl (fun _ => rfl) ?_
          refine Rg.addL 53 F_Arranger_delayPoints_52 rfl ?_
          refine Rg.call 56 F_Arranger_delayPoints_53 rfl (one_S (by decide +kernel) rM_13_227 (by decide) (by simp) rfl rfl) (Nat.le_of_ble_eq_true rfl) (Cg.any (c_max2 (by omega) (by omega))) ?_
          refine Rg.step 58 F_Arranger_delayPoints_56 rfl (fun _ => rfl) ?_
          refine Rg.step 59 F_Arranger_delayPoints_58 rfl (fun _ => rfl) ?_
          refine Rg.getf 62 F_Arranger_delayPoints_59 rfl rF_13_17 gC_49 rfl ?_
          refine Rg.step 63 F_Arranger_delayPoints_62 rfl (fun _ => rfl) ?_
          refine Rg.ild 64 F_Arranger_delayPoints_63 rfl gC_51 (by omega) (by decide) ?_
          refine Rg.call 67 F_Arranger_delayPoints_64 rfl (one_S (by decide +kernel) rM_13_134 (by decide) (by simp) rfl rfl) (Nat.le_of_ble_eq_true rfl) (Cg.any (c_PJ_isEnd (by omega))) ?_
          refine Rg.ifeqP 107 70 F_Arranger_delayPoints_67 rfl rfl (fun _ => ?_) (fun h67 => absurd h67 ho)
          refine Rg.step 108 F_Arranger_delayPoints_107 rfl (fun _ => rfl) ?_
          refine Rg.getf 111 F_Arranger_delayPoints_108 rfl rF_13_24 gC_49 rfl ?_
          refine Rg.step 112 F_Arranger_delayPoints_111 rfl (fun _ => rfl) ?_
          refine Rg.step 114 F_Arranger_delayPoints_112 rfl (fun _ => rfl) ?_
          refine Rg.step 115 F_Arranger_delayPoints_114 rfl (fun _ => rfl) ?_
          refine Rg.getf 118 F_Arranger_delayPoints_115 rfl rF_13_24 gC_49 rfl ?_
          refine Rg.step 119 F_Arranger_delayPoints_118 rfl (fun _ => rfl) ?_
          refine Rg.lld 120 F_Arranger_delayPoints_119 rfl gC_53 (by omega) (by decide) ?_
          refine Rg.call 123 F_Arranger_delayPoints_120 rfl (one_S (by decide +kernel) rM_13_227 (by decide) (by simp) rfl rfl) (Nat.le_of_ble_eq_true rfl) (Cg.any (c_max2 (by omega) (by omega))) ?_
          refine Rg.lst 124 F_Arranger_delayPoints_123 rfl gC_53 (by decide) sC_arT (by omega) (by decide) ?_
          refine Rg.inc 127 F_Arranger_delayPoints_124 rfl rfl (by decide) ?_
          refine Rg.step 2 F_Arranger_delayPoints_127 rfl (fun _ => rfl) ?_
          exact Rg.weak ht (by simp [lput1, lput2, Value.category, fi0, fi1, fi2, fi3] <;> first | rfl | exact ⟨rfl, rfl⟩) (by simp [lput1, lput2, Value.category, fi0, fi1, fi2, fi3] <;> first | rfl | exact ⟨rfl, rfl⟩)
      · by_cases ho : ¬ arR k % 2 = 0
        · skip
          have f0 := mx_l (t (k - 1)) (t (arS (arR k / 2)) + arLU (arR k / 2))
          have f1 := mx_r (t (k - 1)) (t (arS (arR k / 2)) + arLU (arR k / 2))
          have f2 := mx_e (t (k - 1)) (t (arS (arR k / 2)) + arLU (arR k / 2))
          have f3 := mx_l (mx (t (k - 1)) (t (arS (arR k / 2)) + arLU (arR k / 2))) (t k)
          have f4 := mx_r (mx (t (k - 1)) (t (arS (arR k / 2)) + arLU (arR k / 2))) (t k)
          have f5 := mx_e (mx (t (k - 1)) (t (arS (arR k / 2)) + arLU (arR k / 2))) (t k)
          have s9 := hS k hk2 (by omega) ho
          have hst := hI.step hk2 (by omega) hL9 hS9 (v := (mx (mx (t (k - 1)) (t (arS (arR k / 2)) + arLU (arR k / 2))) (t k))) (by omega) (fun z => by omega) (fun z => by first | omega | exact absurd z (by omega)) (fun z => by first | omega | exact absurd z (by omega)) (fun w hu hw => by
            have w0 := hw k
            have w1 := hw (k - 1)
            have w2 := hw (arL k)
            have w3 := hw (arS (arR k / 2))
            have w4 := hu.1 k
            have w5 := hu.2.1.1 k (by omega) (by omega)
            have w7 := hu.2.1.2.2 k hk2 (by omega) ho
            omega) (by omega)
          obtain ⟨t1, j1, ht⟩ := ih (k + 1) (up1 t k (mx (mx (t (k - 1)) (t (arS (arR k / 2)) + arLU (arR k / 2))) (t k))) (by omega) (by omega) hst
          refine ⟨t1, j1, ?_⟩
          refine Rg.step 3 F_Arranger_delayPoints_2 rfl (fun _ => rfl) ?_
          refine Rg.step 4 F_Arranger_delayPoints_3 rfl (fun _ => rfl) ?_
          refine Rg.getf 7 F_Arranger_delayPoints_4 rfl rF_13_64 gC_49 rfl ?_
          refine Rg.icgeI 130 10 F_Arranger_delayPoints_7 rfl rfl (by omega) (by omega) (fun h7 => by omega) (fun _ => ?_)
          refine Rg.step 11 F_Arranger_delayPoints_10 rfl (fun _ => rfl) ?_
          refine Rg.ifleI 25 14 F_Arranger_delayPoints_11 rfl rfl (by omega) (fun h11 => by omega) (fun _ => ?_)
          refine Rg.step 15 F_Arranger_delayPoints_14 rfl (fun _ => rfl) ?_
          refine Rg.getf 18 F_Arranger_delayPoints_15 rfl rF_13_24 gC_49 rfl ?_
          refine Rg.step 19 F_Arranger_delayPoints_18 rfl (fun _ => rfl) ?_
          refine Rg.step 20 F_Arranger_delayPoints_19 rfl (fun _ => rfl) ?_
          refine Rg.subI 21 F_Arranger_delayPoints_20 rfl ?_
          refine Rg.lld 22 F_Arranger_delayPoints_21 rfl gC_53 (by omega) (by decide) ?_
          refine Rg.step 26 F_Arranger_delayPoints_22 rfl (fun _ => rfl) ?_
          refine Rg.step 28 F_Arranger_delayPoints_26 rfl (fun _ => rfl) ?_
          refine Rg.step 29 F_Arranger_delayPoints_28 rfl (fun _ => rfl) ?_
          refine Rg.getf 32 F_Arranger_delayPoints_29 rfl rF_13_21 gC_49 rfl ?_
          refine Rg.step 33 F_Arranger_delayPoints_32 rfl (fun _ => rfl) ?_
          refine Rg.ild 34 F_Arranger_delayPoints_33 rfl gC_52 (by omega) (by decide) ?_
          refine Rg.step 35 F_Arranger_delayPoints_34 rfl (fun _ => rfl) ?_
          refine Rg.iceqI 58 38 F_Arranger_delayPoints_35 rfl rfl (by omega) (by omega) (fun _ => ?_) (fun h35 => absurd h35 hl)
          refine Rg.step 59 F_Arranger_delayPoints_58 rfl (fun _ => rfl) ?_
          refine Rg.getf 62 F_Arranger_delayPoints_59 rfl rF_13_17 gC_49 rfl ?_
          refine Rg.step 63 F_Arranger_delayPoints_62 rfl (fun _ => rfl) ?_
          refine Rg.ild 64 F_Arranger_delayPoints_63 rfl gC_51 (by omega) (by decide) ?_
          refine Rg.call 67 F_Arranger_delayPoints_64 rfl (one_S (by decide +kernel) rM_13_134 (by decide) (by simp) rfl rfl) (Nat.le_of_ble_eq_true rfl) (Cg.any (c_PJ_isEnd (by omega))) ?_
          refine Rg.ifeqP 107 70 F_Arranger_delayPoints_67 rfl rfl (fun h67 => absurd ho h67) (fun _ => ?_)
          refine Rg.step 71 F_Arranger_delayPoints_70 rfl (fun _ => rfl) ?_
          refine Rg.getf 74 F_Arranger_delayPoints_71 rfl rF_13_17 gC_49 rfl ?_
          refine Rg.step 75 F_Arranger_delayPoints_74 rfl (fun _ => rfl) ?_
          refine Rg.ild 76 F_Arranger_delayPoints_75 rfl gC_51 (by omega) (by decide) ?_
          refine Rg.step 77 F_Arranger_delayPoints_76 rfl (fun _ => rfl) ?_
          refine Rg.divIp 78 F_Arranger_delayPoints_77 rfl (by omega) (by omega) ?_
          refine Rg.step 80 F_Arranger_delayPoints_78 rfl (fun _ => rfl) ?_
          refine Rg.step 82 F_Arranger_delayPoints_80 rfl (fun _ => rfl) ?_
          refine Rg.step 83 F_Arranger_delayPoints_82 rfl (fun _ => rfl) ?_
          refine Rg.getf 86 F_Arranger_delayPoints_83 rfl rF_13_24 gC_49 rfl ?_
          refine Rg.step 87 F_Arranger_delayPoints_86 rfl (fun _ => rfl) ?_
          refine Rg.getf 90 F_Arranger_delayPoints_87 rfl rF_13_31 gC_49 rfl ?_
          refine Rg.step 92 F_Arranger_delayPoints_90 rfl (fun _ => rfl) ?_
          refine Rg.ild 93 F_Arranger_delayPoints_92 rfl gC_55 (by omega) (by decide) ?_
          refine Rg.lld 94 F_Arranger_delayPoints_93 rfl gC_53 (by omega) (by decide) ?_
          refine Rg.step 95 F_Arranger_delayPoints_94 rfl (fun _ => rfl) ?_
          refine Rg.getf 98 F_Arranger_delayPoints_95 rfl rF_13_50 gC_49 rfl ?_
          refine Rg.step 100 F_Arranger_delayPoints_98 rfl (fun _ => rfl) ?_
          refine Rg.lld 101 F_Arranger_delayPoints_100 rfl gC_63 (by omega) (by decide) ?_
          refine Rg.addL 102 F_Arranger_delayPoints_101 rfl ?_
          refine Rg.call 105 F_Arranger_delayPoints_102 rfl (one_S (by decide +kernel) rM_13_227 (by decide) (by simp) rfl rfl) (Nat.le_of_ble_eq_true rfl) (Cg.any (c_max2 (by omega) (by omega))) ?_
          refine Rg.step 107 F_Arranger_delayPoints_105 rfl (fun _ => rfl) ?_
          refine Rg.step 108 F_Arranger_delayPoints_107 rfl (fun _ => rfl) ?_
          refine Rg.getf 111 F_Arranger_delayPoints_108 rfl rF_13_24 gC_49 rfl ?_
          refine Rg.step 112 F_Arranger_delayPoints_111 rfl (fun _ => rfl) ?_
          refine Rg.step 114 F_Arranger_delayPoints_112 rfl (fun _ => rfl) ?_
          refine Rg.step 115 F_Arranger_delayPoints_114 rfl (fun _ => rfl) ?_
          refine Rg.getf 118 F_Arranger_delayPoints_115 rfl rF_13_24 gC_49 rfl ?_
          refine Rg.step 119 F_Arranger_delayPoints_118 rfl (fun _ => rfl) ?_
          refine Rg.lld 120 F_Arranger_delayPoints_119 rfl gC_53 (by omega) (by decide) ?_
          refine Rg.call 123 F_Arranger_delayPoints_120 rfl (one_S (by decide +kernel) rM_13_227 (by decide) (by simp) rfl rfl) (Nat.le_of_ble_eq_true rfl) (Cg.any (c_max2 (by omega) (by omega))) ?_
          refine Rg.lst 124 F_Arranger_delayPoints_123 rfl gC_53 (by decide) sC_arT (by omega) (by decide) ?_
          refine Rg.inc 127 F_Arranger_delayPoints_124 rfl rfl (by decide) ?_
          refine Rg.step 2 F_Arranger_delayPoints_127 rfl (fun _ => rfl) ?_
          exact Rg.weak ht (by simp [lput1, lput2, Value.category, fi0, fi1, fi2, fi3] <;> first | rfl | exact ⟨rfl, rfl⟩) (by simp [lput1, lput2, Value.category, fi0, fi1, fi2, fi3] <;> first | rfl | exact ⟨rfl, rfl⟩)
        · skip
          have f0 := mx_l (t (k - 1)) (t k)
          have f1 := mx_r (t (k - 1)) (t k)
          have f2 := mx_e (t (k - 1)) (t k)
          have hst := hI.step hk2 (by omega) hL9 hS9 (v := (mx (t (k - 1)) (t k))) (by omega) (fun z => by omega) (fun z => by first | omega | exact absurd z (by omega)) (fun z => by first | omega | exact absurd z (by omega)) (fun w hu hw => by
            have w0 := hw k
            have w1 := hw (k - 1)
            have w2 := hw (arL k)
            have w3 := hw (arS (arR k / 2))
            have w4 := hu.1 k
            have w5 := hu.2.1.1 k (by omega) (by omega)
            omega) (by omega)
          obtain ⟨t1, j1, ht⟩ := ih (k + 1) (up1 t k (mx (t (k - 1)) (t k))) (by omega) (by omega) hst
          refine ⟨t1, j1, ?_⟩
          refine Rg.step 3 F_Arranger_delayPoints_2 rfl (fun _ => rfl) ?_
          refine Rg.step 4 F_Arranger_delayPoints_3 rfl (fun _ => rfl) ?_
          refine Rg.getf 7 F_Arranger_delayPoints_4 rfl rF_13_64 gC_49 rfl ?_
          refine Rg.icgeI 130 10 F_Arranger_delayPoints_7 rfl rfl (by omega) (by omega) (fun h7 => by omega) (fun _ => ?_)
          refine Rg.step 11 F_Arranger_delayPoints_10 rfl (fun _ => rfl) ?_
          refine Rg.ifleI 25 14 F_Arranger_delayPoints_11 rfl rfl (by omega) (fun h11 => by omega) (fun _ => ?_)
          refine Rg.step 15 F_Arranger_delayPoints_14 rfl (fun _ => rfl) ?_
          refine Rg.getf 18 F_Arranger_delayPoints_15 rfl rF_13_24 gC_49 rfl ?_
          refine Rg.step 19 F_Arranger_delayPoints_18 rfl (fun _ => rfl) ?_
          refine Rg.step 20 F_Arranger_delayPoints_19 rfl (fun _ => rfl) ?_
          refine Rg.subI 21 F_Arranger_delayPoints_20 rfl ?_
          refine Rg.lld 22 F_Arranger_delayPoints_21 rfl gC_53 (by omega) (by decide) ?_
          refine Rg.step 26 F_Arranger_delayPoints_22 rfl (fun _ => rfl) ?_
          refine Rg.step 28 F_Arranger_delayPoints_26 rfl (fun _ => rfl) ?_
          refine Rg.step 29 F_Arranger_delayPoints_28 rfl (fun _ => rfl) ?_
          refine Rg.getf 32 F_Arranger_delayPoints_29 rfl rF_13_21 gC_49 rfl ?_
          refine Rg.step 33 F_Arranger_delayPoints_32 rfl (fun _ => rfl) ?_
          refine Rg.ild 34 F_Arranger_delayPoints_33 rfl gC_52 (by omega) (by decide) ?_
          refine Rg.step 35 F_Arranger_delayPoints_34 rfl (fun _ => rfl) ?_
          refine Rg.iceqI 58 38 F_Arranger_delayPoints_35 rfl rfl (by omega) (by omega) (fun _ => ?_) (fun h35 => absurd h35 hl)
          refine Rg.step 59 F_Arranger_delayPoints_58 rfl (fun _ => rfl) ?_
          refine Rg.getf 62 F_Arranger_delayPoints_59 rfl rF_13_17 gC_49 rfl ?_
          refine Rg.step 63 F_Arranger_delayPoints_62 rfl (fun _ => rfl) ?_
          refine Rg.ild 64 F_Arranger_delayPoints_63 rfl gC_51 (by omega) (by decide) ?_
          refine Rg.call 67 F_Arranger_delayPoints_64 rfl (one_S (by decide +kernel) rM_13_134 (by decide) (by simp) rfl rfl) (Nat.le_of_ble_eq_true rfl) (Cg.any (c_PJ_isEnd (by omega))) ?_
          refine Rg.ifeqP 107 70 F_Arranger_delayPoints_67 rfl rfl (fun _ => ?_) (fun h67 => absurd h67 ho)
          refine Rg.step 108 F_Arranger_delayPoints_107 rfl (fun _ => rfl) ?_
          refine Rg.getf 111 F_Arranger_delayPoints_108 rfl rF_13_24 gC_49 rfl ?_
          refine Rg.step 112 F_Arranger_delayPoints_111 rfl (fun _ => rfl) ?_
          refine Rg.step 114 F_Arranger_delayPoints_112 rfl (fun _ => rfl) ?_
          refine Rg.step 115 F_Arranger_delayPoints_114 rfl (fun _ => rfl) ?_
          refine Rg.getf 118 F_Arranger_delayPoints_115 rfl rF_13_24 gC_49 rfl ?_
          refine Rg.step 119 F_Arranger_delayPoints_118 rfl (fun _ => rfl) ?_
          refine Rg.lld 120 F_Arranger_delayPoints_119 rfl gC_53 (by omega) (by decide) ?_
          refine Rg.call 123 F_Arranger_delayPoints_120 rfl (one_S (by decide +kernel) rM_13_227 (by decide) (by simp) rfl rfl) (Nat.le_of_ble_eq_true rfl) (Cg.any (c_max2 (by omega) (by omega))) ?_
          refine Rg.lst 124 F_Arranger_delayPoints_123 rfl gC_53 (by decide) sC_arT (by omega) (by decide) ?_
          refine Rg.inc 127 F_Arranger_delayPoints_124 rfl rfl (by decide) ?_
          refine Rg.step 2 F_Arranger_delayPoints_127 rfl (fun _ => rfl) ?_
          exact Rg.weak ht (by simp [lput1, lput2, Value.category, fi0, fi1, fi2, fi3] <;> first | rfl | exact ⟨rfl, rfl⟩) (by simp [lput1, lput2, Value.category, fi0, fi1, fi2, fi3] <;> first | rfl | exact ⟨rfl, rfl⟩)
    · by_cases hl : ¬ arL k = -1
      · by_cases ho : ¬ arR k % 2 = 0
        · skip
          have f0 := mx_l 0 (t (arL k) + Eu)
          have f1 := mx_r 0 (t (arL k) + Eu)
          have f2 := mx_e 0 (t (arL k) + Eu)
          have f3 := mx_l (mx 0 (t (arL k) + Eu)) (t (arS (arR k / 2)) + arLU (arR k / 2))
          have f4 := mx_r (mx 0 (t (arL k) + Eu)) (t (arS (arR k / 2)) + arLU (arR k / 2))
          have f5 := mx_e (mx 0 (t (arL k) + Eu)) (t (arS (arR k / 2)) + arLU (arR k / 2))
          have f6 := mx_l (mx (mx 0 (t (arL k) + Eu)) (t (arS (arR k / 2)) + arLU (arR k / 2))) (t k)
          have f7 := mx_r (mx (mx 0 (t (arL k) + Eu)) (t (arS (arR k / 2)) + arLU (arR k / 2))) (t k)
          have f8 := mx_e (mx (mx 0 (t (arL k) + Eu)) (t (arS (arR k / 2)) + arLU (arR k / 2))) (t k)
          have s9 := hS k hk2 (by omega) ho
          have l9 := l3 hl
          have hst := hI.step hk2 (by omega) hL9 hS9 (v := (mx (mx (mx 0 (t (arL k) + Eu)) (t (arS (arR k / 2)) + arLU (arR k / 2))) (t k))) (by omega) (fun z => by omega) (fun z => by first | omega | exact absurd z (by omega)) (fun z => by first | omega | exact absurd z (by omega)) (fun w hu hw => by
            have w0 := hw k
            have w1 := hw (k - 1)
            have w2 := hw (arL k)
            have w3 := hw (arS (arR k / 2))
            have w4 := hu.1 k
            have w6 := hu.2.1.2.1 k hk2 (by omega) hl
            have w7 := hu.2.1.2.2 k hk2 (by omega) ho
            omega) (by omega)
          obtain ⟨t1, j1, ht⟩ := ih (k + 1) (up1 t k (mx (mx (mx 0 (t (arL k) + Eu)) (t (arS (arR k / 2)) + arLU (arR k / 2))) (t k))) (by omega) (by omega) hst
          refine ⟨t1, j1, ?_⟩
          refine Rg.step 3 F_Arranger_delayPoints_2 rfl (fun _ => rfl) ?_
          refine Rg.step 4 F_Arranger_delayPoints_3 rfl (fun _ => rfl) ?_
          refine Rg.getf 7 F_Arranger_delayPoints_4 rfl rF_13_64 gC_49 rfl ?_
          refine Rg.icgeI 130 10 F_Arranger_delayPoints_7 rfl rfl (by omega) (by omega) (fun h7 => by omega) (fun _ => ?_)
          refine Rg.step 11 F_Arranger_delayPoints_10 rfl (fun _ => rfl) ?_
          refine Rg.ifleI 25 14 F_Arranger_delayPoints_11 rfl rfl (by omega) (fun _ => ?_) (fun h11 => by omega)
          refine Rg.lcn (n := 0) 26 F_Arranger_delayPoints_25 rfl rfl ?_
          refine Rg.step 28 F_Arranger_delayPoints_26 rfl (fun _ => rfl) ?_
          refine Rg.step 29 F_Arranger_delayPoints_28 rfl (fun _ => rfl) ?_
          refine Rg.getf 32 F_Arranger_delayPoints_29 rfl rF_13_21 gC_49 rfl ?_
          refine Rg.step 33 F_Arranger_delayPoints_32 rfl (fun _ => rfl) ?_
          refine Rg.ild 34 F_Arranger_delayPoints_33 rfl gC_52 (by omega) (by decide) ?_
          refine Rg.step 35 F_Arranger_delayPoints_34 rfl (fun _ => rfl) ?_
          refine Rg.iceqI 58 38 F_Arranger_delayPoints_35 rfl rfl (by omega) (by omega) (fun h35 => absurd h35 hl) (fun _ => ?_)
          refine Rg.step 40 F_Arranger_delayPoints_38 rfl (fun _ => rfl) ?_
          refine Rg.step 41 F_Arranger_delayPoints_40 rfl (fun _ => rfl) ?_
          refine Rg.getf 44 F_Arranger_delayPoints_41 rfl rF_13_24 gC_49 rfl ?_
          refine Rg.step 45 F_Arranger_delayPoints_44 rfl (fun _ => rfl) ?_
          refine Rg.getf 48 F_Arranger_delayPoints_45 rfl rF_13_21 gC_49 rfl ?_
          refine Rg.step 49 F_Arranger_delayPoints_48 rfl (fun _ => rfl) ?_
          refine Rg.ild 50 F_Arranger_delayPoints_49 rfl gC_52 (by omega) (by decide) ?_
          refine Rg.lld 51 F_Arranger_delayPoints_50 rfl gC_53 (by omega) (by decide) ?_
          refine Rg.step 52 F_Arranger_delayPoints_51 rfl (fun _ => rfl) ?_
          refine Rg.addL 53 F_Arranger_delayPoints_52 rfl ?_
          refine Rg.call 56 F_Arranger_delayPoints_53 rfl (one_S (by decide +kernel) rM_13_227 (by decide) (by simp) rfl rfl) (Nat.le_of_ble_eq_true rfl) (Cg.any (c_max2 (by omega) (by omega))) ?_
          refine Rg.step 58 F_Arranger_delayPoints_56 rfl (fun _ => rfl) ?_
          refine Rg.step 59 F_Arranger_delayPoints_58 rfl (fun _ => rfl) ?_
          refine Rg.getf 62 F_Arranger_delayPoints_59 rfl rF_13_17 gC_49 rfl ?_
          refine Rg.step 63 F_Arranger_delayPoints_62 rfl (fun _ => rfl) ?_
          refine Rg.ild 64 F_Arranger_delayPoints_63 rfl gC_51 (by omega) (by decide) ?_
          refine Rg.call 67 F_Arranger_delayPoints_64 rfl (one_S (by decide +kernel) rM_13_134 (by decide) (by simp) rfl rfl) (Nat.le_of_ble_eq_true rfl) (Cg.any (c_PJ_isEnd (by omega))) ?_
          refine Rg.ifeqP 107 70 F_Arranger_delayPoints_67 rfl rfl (fun h67 => absurd ho h67) (fun _ => ?_)
          refine Rg.step 71 F_Arranger_delayPoints_70 rfl (fun _ => rfl) ?_
          refine Rg.getf 74 F_Arranger_delayPoints_71 rfl rF_13_17 gC_49 rfl ?_
          refine Rg.step 75 F_Arranger_delayPoints_74 rfl (fun _ => rfl) ?_
          refine Rg.ild 76 F_Arranger_delayPoints_75 rfl gC_51 (by omega) (by decide) ?_
          refine Rg.step 77 F_Arranger_delayPoints_76 rfl (fun _ => rfl) ?_
          refine Rg.divIp 78 F_Arranger_delayPoints_77 rfl (by omega) (by omega) ?_
          refine Rg.step 80 F_Arranger_delayPoints_78 rfl (fun _ => rfl) ?_
          refine Rg.step 82 F_Arranger_delayPoints_80 rfl (fun _ => rfl) ?_
          refine Rg.step 83 F_Arranger_delayPoints_82 rfl (fun _ => rfl) ?_
          refine Rg.getf 86 F_Arranger_delayPoints_83 rfl rF_13_24 gC_49 rfl ?_
          refine Rg.step 87 F_Arranger_delayPoints_86 rfl (fun _ => rfl) ?_
          refine Rg.getf 90 F_Arranger_delayPoints_87 rfl rF_13_31 gC_49 rfl ?_
          refine Rg.step 92 F_Arranger_delayPoints_90 rfl (fun _ => rfl) ?_
          refine Rg.ild 93 F_Arranger_delayPoints_92 rfl gC_55 (by omega) (by decide) ?_
          refine Rg.lld 94 F_Arranger_delayPoints_93 rfl gC_53 (by omega) (by decide) ?_
          refine Rg.step 95 F_Arranger_delayPoints_94 rfl (fun _ => rfl) ?_
          refine Rg.getf 98 F_Arranger_delayPoints_95 rfl rF_13_50 gC_49 rfl ?_
          refine Rg.step 100 F_Arranger_delayPoints_98 rfl (fun _ => rfl) ?_
          refine Rg.lld 101 F_Arranger_delayPoints_100 rfl gC_63 (by omega) (by decide) ?_
          refine Rg.addL 102 F_Arranger_delayPoints_101 rfl ?_
          refine Rg.call 105 F_Arranger_delayPoints_102 rfl (one_S (by decide +kernel) rM_13_227 (by decide) (by simp) rfl rfl) (Nat.le_of_ble_eq_true rfl) (Cg.any (c_max2 (by omega) (by omega))) ?_
          refine Rg.step 107 F_Arranger_delayPoints_105 rfl (fun _ => rfl) ?_
          refine Rg.step 108 F_Arranger_delayPoints_107 rfl (fun _ => rfl) ?_
          refine Rg.getf 111 F_Arranger_delayPoints_108 rfl rF_13_24 gC_49 rfl ?_
          refine Rg.step 112 F_Arranger_delayPoints_111 rfl (fun _ => rfl) ?_
          refine Rg.step 114 F_Arranger_delayPoints_112 rfl (fun _ => rfl) ?_
          refine Rg.step 115 F_Arranger_delayPoints_114 rfl (fun _ => rfl) ?_
          refine Rg.getf 118 F_Arranger_delayPoints_115 rfl rF_13_24 gC_49 rfl ?_
          refine Rg.step 119 F_Arranger_delayPoints_118 rfl (fun _ => rfl) ?_
          refine Rg.lld 120 F_Arranger_delayPoints_119 rfl gC_53 (by omega) (by decide) ?_
          refine Rg.call 123 F_Arranger_delayPoints_120 rfl (one_S (by decide +kernel) rM_13_227 (by decide) (by simp) rfl rfl) (Nat.le_of_ble_eq_true rfl) (Cg.any (c_max2 (by omega) (by omega))) ?_
          refine Rg.lst 124 F_Arranger_delayPoints_123 rfl gC_53 (by decide) sC_arT (by omega) (by decide) ?_
          refine Rg.inc 127 F_Arranger_delayPoints_124 rfl rfl (by decide) ?_
          refine Rg.step 2 F_Arranger_delayPoints_127 rfl (fun _ => rfl) ?_
          exact Rg.weak ht (by simp [lput1, lput2, Value.category, fi0, fi1, fi2, fi3] <;> first | rfl | exact ⟨rfl, rfl⟩) (by simp [lput1, lput2, Value.category, fi0, fi1, fi2, fi3] <;> first | rfl | exact ⟨rfl, rfl⟩)
        · skip
          have f0 := mx_l 0 (t (arL k) + Eu)
          have f1 := mx_r 0 (t (arL k) + Eu)
          have f2 := mx_e 0 (t (arL k) + Eu)
          have f3 := mx_l (mx 0 (t (arL k) + Eu)) (t k)
          have f4 := mx_r (mx 0 (t (arL k) + Eu)) (t k)
          have f5 := mx_e (mx 0 (t (arL k) + Eu)) (t k)
          have l9 := l3 hl
          have hst := hI.step hk2 (by omega) hL9 hS9 (v := (mx (mx 0 (t (arL k) + Eu)) (t k))) (by omega) (fun z => by omega) (fun z => by first | omega | exact absurd z (by omega)) (fun z => by first | omega | exact absurd z (by omega)) (fun w hu hw => by
            have w0 := hw k
            have w1 := hw (k - 1)
            have w2 := hw (arL k)
            have w3 := hw (arS (arR k / 2))
            have w4 := hu.1 k
            have w6 := hu.2.1.2.1 k hk2 (by omega) hl
            omega) (by omega)
          obtain ⟨t1, j1, ht⟩ := ih (k + 1) (up1 t k (mx (mx 0 (t (arL k) + Eu)) (t k))) (by omega) (by omega) hst
          refine ⟨t1, j1, ?_⟩
          refine Rg.step 3 F_Arranger_delayPoints_2 rfl (fun _ => rfl) ?_
          refine Rg.step 4 F_Arranger_delayPoints_3 rfl (fun _ => rfl) ?_
          refine Rg.getf 7 F_Arranger_delayPoints_4 rfl rF_13_64 gC_49 rfl ?_
          refine Rg.icgeI 130 10 F_Arranger_delayPoints_7 rfl rfl (by omega) (by omega) (fun h7 => by omega) (fun _ => ?_)
          refine Rg.step 11 F_Arranger_delayPoints_10 rfl (fun _ => rfl) ?_
          refine Rg.ifleI 25 14 F_Arranger_delayPoints_11 rfl rfl (by omega) (fun _ => ?_) (fun h11 => by omega)
          refine Rg.lcn (n := 0) 26 F_Arranger_delayPoints_25 rfl rfl ?_
          refine Rg.step 28 F_Arranger_delayPoints_26 rfl (fun _ => rfl) ?_
          refine Rg.step 29 F_Arranger_delayPoints_28 rfl (fun _ => rfl) ?_
          refine Rg.getf 32 F_Arranger_delayPoints_29 rfl rF_13_21 gC_49 rfl ?_
          refine Rg.step 33 F_Arranger_delayPoints_32 rfl (fun _ => rfl) ?_
          refine Rg.ild 34 F_Arranger_delayPoints_33 rfl gC_52 (by omega) (by decide) ?_
          refine Rg.step 35 F_Arranger_delayPoints_34 rfl (fun _ => rfl) ?_
          refine Rg.iceqI 58 38 F_Arranger_delayPoints_35 rfl rfl (by omega) (by omega) (fun h35 => absurd h35 hl) (fun _ => ?_)
          refine Rg.step 40 F_Arranger_delayPoints_38 rfl (fun _ => rfl) ?_
          refine Rg.step 41 F_Arranger_delayPoints_40 rfl (fun _ => rfl) ?_
          refine Rg.getf 44 F_Arranger_delayPoints_41 rfl rF_13_24 gC_49 rfl ?_
          refine Rg.step 45 F_Arranger_delayPoints_44 rfl (fun _ => rfl) ?_
          refine Rg.getf 48 F_Arranger_delayPoints_45 rfl rF_13_21 gC_49 rfl ?_
          refine Rg.step 49 F_Arranger_delayPoints_48 rfl (fun _ => rfl) ?_
          refine Rg.ild 50 F_Arranger_delayPoints_49 rfl gC_52 (by omega) (by decide) ?_
          refine Rg.lld 51 F_Arranger_delayPoints_50 rfl gC_53 (by omega) (by decide) ?_
          refine Rg.step 52 F_Arranger_delayPoints_51 rfl (fun _ => rfl) ?_
          refine Rg.addL 53 F_Arranger_delayPoints_52 rfl ?_
          refine Rg.call 56 F_Arranger_delayPoints_53 rfl (one_S (by decide +kernel) rM_13_227 (by decide) (by simp) rfl rfl) (Nat.le_of_ble_eq_true rfl) (Cg.any (c_max2 (by omega) (by omega))) ?_
          refine Rg.step 58 F_Arranger_delayPoints_56 rfl (fun _ => rfl) ?_
          refine Rg.step 59 F_Arranger_delayPoints_58 rfl (fun _ => rfl) ?_
          refine Rg.getf 62 F_Arranger_delayPoints_59 rfl rF_13_17 gC_49 rfl ?_
          refine Rg.step 63 F_Arranger_delayPoints_62 rfl (fun _ => rfl) ?_
          refine Rg.ild 64 F_Arranger_delayPoints_63 rfl gC_51 (by omega) (by decide) ?_
          refine Rg.call 67 F_Arranger_delayPoints_64 rfl (one_S (by decide +kernel) rM_13_134 (by decide) (by simp) rfl rfl) (Nat.le_of_ble_eq_true rfl) (Cg.any (c_PJ_isEnd (by omega))) ?_
          refine Rg.ifeqP 107 70 F_Arranger_delayPoints_67 rfl rfl (fun _ => ?_) (fun h67 => absurd h67 ho)
          refine Rg.step 108 F_Arranger_delayPoints_107 rfl (fun _ => rfl) ?_
          refine Rg.getf 111 F_Arranger_delayPoints_108 rfl rF_13_24 gC_49 rfl ?_
          refine Rg.step 112 F_Arranger_delayPoints_111 rfl (fun _ => rfl) ?_
          refine Rg.step 114 F_Arranger_delayPoints_112 rfl (fun _ => rfl) ?_
          refine Rg.step 115 F_Arranger_delayPoints_114 rfl (fun _ => rfl) ?_
          refine Rg.getf 118 F_Arranger_delayPoints_115 rfl rF_13_24 gC_49 rfl ?_
          refine Rg.step 119 F_Arranger_delayPoints_118 rfl (fun _ => rfl) ?_
          refine Rg.lld 120 F_Arranger_delayPoints_119 rfl gC_53 (by omega) (by decide) ?_
          refine Rg.call 123 F_Arranger_delayPoints_120 rfl (one_S (by decide +kernel) rM_13_227 (by decide) (by simp) rfl rfl) (Nat.le_of_ble_eq_true rfl) (Cg.any (c_max2 (by omega) (by omega))) ?_
          refine Rg.lst 124 F_Arranger_delayPoints_123 rfl gC_53 (by decide) sC_arT (by omega) (by decide) ?_
          refine Rg.inc 127 F_Arranger_delayPoints_124 rfl rfl (by decide) ?_
          refine Rg.step 2 F_Arranger_delayPoints_127 rfl (fun _ => rfl) ?_
          exact Rg.weak ht (by simp [lput1, lput2, Value.category, fi0, fi1, fi2, fi3] <;> first | rfl | exact ⟨rfl, rfl⟩) (by simp [lput1, lput2, Value.category, fi0, fi1, fi2, fi3] <;> first | rfl | exact ⟨rfl, rfl⟩)
      · by_cases ho : ¬ arR k % 2 = 0
        · skip
          have f0 := mx_l 0 (t (arS (arR k / 2)) + arLU (arR k / 2))
          have f1 := mx_r 0 (t (arS (arR k / 2)) + arLU (arR k / 2))
          have f2 := mx_e 0 (t (arS (arR k / 2)) + arLU (arR k / 2))
          have f3 := mx_l (mx 0 (t (arS (arR k / 2)) + arLU (arR k / 2))) (t k)
          have f4 := mx_r (mx 0 (t (arS (arR k / 2)) + arLU (arR k / 2))) (t k)
          have f5 := mx_e (mx 0 (t (arS (arR k / 2)) + arLU (arR k / 2))) (t k)
          have s9 := hS k hk2 (by omega) ho
          have hst := hI.step hk2 (by omega) hL9 hS9 (v := (mx (mx 0 (t (arS (arR k / 2)) + arLU (arR k / 2))) (t k))) (by omega) (fun z => by omega) (fun z => by first | omega | exact absurd z (by omega)) (fun z => by first | omega | exact absurd z (by omega)) (fun w hu hw => by
            have w0 := hw k
            have w1 := hw (k - 1)
            have w2 := hw (arL k)
            have w3 := hw (arS (arR k / 2))
            have w4 := hu.1 k
            have w7 := hu.2.1.2.2 k hk2 (by omega) ho
            omega) (by omega)
          obtain ⟨t1, j1, ht⟩ := ih (k + 1) (up1 t k (mx (mx 0 (t (arS (arR k / 2)) + arLU (arR k / 2))) (t k))) (by omega) (by omega) hst
          refine ⟨t1, j1, ?_⟩
          refine Rg.step 3 F_Arranger_delayPoints_2 rfl (fun _ => rfl) ?_
          refine Rg.step 4 F_Arranger_delayPoints_3 rfl (fun _ => rfl) ?_
          refine Rg.getf 7 F_Arranger_delayPoints_4 rfl rF_13_64 gC_49 rfl ?_
          refine Rg.icgeI 130 10 F_Arranger_delayPoints_7 rfl rfl (by omega) (by omega) (fun h7 => by omega) (fun _ => ?_)
          refine Rg.step 11 F_Arranger_delayPoints_10 rfl (fun _ => rfl) ?_
          refine Rg.ifleI 25 14 F_Arranger_delayPoints_11 rfl rfl (by omega) (fun _ => ?_) (fun h11 => by omega)
          refine Rg.lcn (n := 0) 26 F_Arranger_delayPoints_25 rfl rfl ?_
          refine Rg.step 28 F_Arranger_delayPoints_26 rfl (fun _ => rfl) ?_
          refine Rg.step 29 F_Arranger_delayPoints_28 rfl (fun _ => rfl) ?_
          refine Rg.getf 32 F_Arranger_delayPoints_29 rfl rF_13_21 gC_49 rfl ?_
          refine Rg.step 33 F_Arranger_delayPoints_32 rfl (fun _ => rfl) ?_
          refine Rg.ild 34 F_Arranger_delayPoints_33 rfl gC_52 (by omega) (by decide) ?_
          refine Rg.step 35 F_Arranger_delayPoints_34 rfl (fun _ => rfl) ?_
          refine Rg.iceqI 58 38 F_Arranger_delayPoints_35 rfl rfl (by omega) (by omega) (fun _ => ?_) (fun h35 => absurd h35 hl)
          refine Rg.step 59 F_Arranger_delayPoints_58 rfl (fun _ => rfl) ?_
          refine Rg.getf 62 F_Arranger_delayPoints_59 rfl rF_13_17 gC_49 rfl ?_
          refine Rg.step 63 F_Arranger_delayPoints_62 rfl (fun _ => rfl) ?_
          refine Rg.ild 64 F_Arranger_delayPoints_63 rfl gC_51 (by omega) (by decide) ?_
          refine Rg.call 67 F_Arranger_delayPoints_64 rfl (one_S (by decide +kernel) rM_13_134 (by decide) (by simp) rfl rfl) (Nat.le_of_ble_eq_true rfl) (Cg.any (c_PJ_isEnd (by omega))) ?_
          refine Rg.ifeqP 107 70 F_Arranger_delayPoints_67 rfl rfl (fun h67 => absurd ho h67) (fun _ => ?_)
          refine Rg.step 71 F_Arranger_delayPoints_70 rfl (fun _ => rfl) ?_
          refine Rg.getf 74 F_Arranger_delayPoints_71 rfl rF_13_17 gC_49 rfl ?_
          refine Rg.step 75 F_Arranger_delayPoints_74 rfl (fun _ => rfl) ?_
          refine Rg.ild 76 F_Arranger_delayPoints_75 rfl gC_51 (by omega) (by decide) ?_
          refine Rg.step 77 F_Arranger_delayPoints_76 rfl (fun _ => rfl) ?_
          refine Rg.divIp 78 F_Arranger_delayPoints_77 rfl (by omega) (by omega) ?_
          refine Rg.step 80 F_Arranger_delayPoints_78 rfl (fun _ => rfl) ?_
          refine Rg.step 82 F_Arranger_delayPoints_80 rfl (fun _ => rfl) ?_
          refine Rg.step 83 F_Arranger_delayPoints_82 rfl (fun _ => rfl) ?_
          refine Rg.getf 86 F_Arranger_delayPoints_83 rfl rF_13_24 gC_49 rfl ?_
          refine Rg.step 87 F_Arranger_delayPoints_86 rfl (fun _ => rfl) ?_
          refine Rg.getf 90 F_Arranger_delayPoints_87 rfl rF_13_31 gC_49 rfl ?_
          refine Rg.step 92 F_Arranger_delayPoints_90 rfl (fun _ => rfl) ?_
          refine Rg.ild 93 F_Arranger_delayPoints_92 rfl gC_55 (by omega) (by decide) ?_
          refine Rg.lld 94 F_Arranger_delayPoints_93 rfl gC_53 (by omega) (by decide) ?_
          refine Rg.step 95 F_Arranger_delayPoints_94 rfl (fun _ => rfl) ?_
          refine Rg.getf 98 F_Arranger_delayPoints_95 rfl rF_13_50 gC_49 rfl ?_
          refine Rg.step 100 F_Arranger_delayPoints_98 rfl (fun _ => rfl) ?_
          refine Rg.lld 101 F_Arranger_delayPoints_100 rfl gC_63 (by omega) (by decide) ?_
          refine Rg.addL 102 F_Arranger_delayPoints_101 rfl ?_
          refine Rg.call 105 F_Arranger_delayPoints_102 rfl (one_S (by decide +kernel) rM_13_227 (by decide) (by simp) rfl rfl) (Nat.le_of_ble_eq_true rfl) (Cg.any (c_max2 (by omega) (by omega))) ?_
          refine Rg.step 107 F_Arranger_delayPoints_105 rfl (fun _ => rfl) ?_
          refine Rg.step 108 F_Arranger_delayPoints_107 rfl (fun _ => rfl) ?_
          refine Rg.getf 111 F_Arranger_delayPoints_108 rfl rF_13_24 gC_49 rfl ?_
          refine Rg.step 112 F_Arranger_delayPoints_111 rfl (fun _ => rfl) ?_
          refine Rg.step 114 F_Arranger_delayPoints_112 rfl (fun _ => rfl) ?_
          refine Rg.step 115 F_Arranger_delayPoints_114 rfl (fun _ => rfl) ?_
          refine Rg.getf 118 F_Arranger_delayPoints_115 rfl rF_13_24 gC_49 rfl ?_
          refine Rg.step 119 F_Arranger_delayPoints_118 rfl (fun _ => rfl) ?_
          refine Rg.lld 120 F_Arranger_delayPoints_119 rfl gC_53 (by omega) (by decide) ?_
          refine Rg.call 123 F_Arranger_delayPoints_120 rfl (one_S (by decide +kernel) rM_13_227 (by decide) (by simp) rfl rfl) (Nat.le_of_ble_eq_true rfl) (Cg.any (c_max2 (by omega) (by omega))) ?_
          refine Rg.lst 124 F_Arranger_delayPoints_123 rfl gC_53 (by decide) sC_arT (by omega) (by decide) ?_
          refine Rg.inc 127 F_Arranger_delayPoints_124 rfl rfl (by decide) ?_
          refine Rg.step 2 F_Arranger_delayPoints_127 rfl (fun _ => rfl) ?_
          exact Rg.weak ht (by simp [lput1, lput2, Value.category, fi0, fi1, fi2, fi3] <;> first | rfl | exact ⟨rfl, rfl⟩) (by simp [lput1, lput2, Value.category, fi0, fi1, fi2, fi3] <;> first | rfl | exact ⟨rfl, rfl⟩)
        · skip
          have f0 := mx_l 0 (t k)
          have f1 := mx_r 0 (t k)
          have f2 := mx_e 0 (t k)
          have hst := hI.step hk2 (by omega) hL9 hS9 (v := (mx 0 (t k))) (by omega) (fun z => by omega) (fun z => by first | omega | exact absurd z (by omega)) (fun z => by first | omega | exact absurd z (by omega)) (fun w hu hw => by
            have w0 := hw k
            have w1 := hw (k - 1)
            have w2 := hw (arL k)
            have w3 := hw (arS (arR k / 2))
            have w4 := hu.1 k
            skip
            omega) (by omega)
          obtain ⟨t1, j1, ht⟩ := ih (k + 1) (up1 t k (mx 0 (t k))) (by omega) (by omega) hst
          refine ⟨t1, j1, ?_⟩
          refine Rg.step 3 F_Arranger_delayPoints_2 rfl (fun _ => rfl) ?_
          refine Rg.step 4 F_Arranger_delayPoints_3 rfl (fun _ => rfl) ?_
          refine Rg.getf 7 F_Arranger_delayPoints_4 rfl rF_13_64 gC_49 rfl ?_
          refine Rg.icgeI 130 10 F_Arranger_delayPoints_7 rfl rfl (by omega) (by omega) (fun h7 => by omega) (fun _ => ?_)
          refine Rg.step 11 F_Arranger_delayPoints_10 rfl (fun _ => rfl) ?_
          refine Rg.ifleI 25 14 F_Arranger_delayPoints_11 rfl rfl (by omega) (fun _ => ?_) (fun h11 => by omega)
          refine Rg.lcn (n := 0) 26 F_Arranger_delayPoints_25 rfl rfl ?_
          refine Rg.step 28 F_Arranger_delayPoints_26 rfl (fun _ => rfl) ?_
          refine Rg.step 29 F_Arranger_delayPoints_28 rfl (fun _ => rfl) ?_
          refine Rg.getf 32 F_Arranger_delayPoints_29 rfl rF_13_21 gC_49 rfl ?_
          refine Rg.step 33 F_Arranger_delayPoints_32 rfl (fun _ => rfl) ?_
          refine Rg.ild 34 F_Arranger_delayPoints_33 rfl gC_52 (by omega) (by decide) ?_
          refine Rg.step 35 F_Arranger_delayPoints_34 rfl (fun _ => rfl) ?_
          refine Rg.iceqI 58 38 F_Arranger_delayPoints_35 rfl rfl (by omega) (by omega) (fun _ => ?_) (fun h35 => absurd h35 hl)
          refine Rg.step 59 F_Arranger_delayPoints_58 rfl (fun _ => rfl) ?_
          refine Rg.getf 62 F_Arranger_delayPoints_59 rfl rF_13_17 gC_49 rfl ?_
          refine Rg.step 63 F_Arranger_delayPoints_62 rfl (fun _ => rfl) ?_
          refine Rg.ild 64 F_Arranger_delayPoints_63 rfl gC_51 (by omega) (by decide) ?_
          refine Rg.call 67 F_Arranger_delayPoints_64 rfl (one_S (by decide +kernel) rM_13_134 (by decide) (by simp) rfl rfl) (Nat.le_of_ble_eq_true rfl) (Cg.any (c_PJ_isEnd (by omega))) ?_
          refine Rg.ifeqP 107 70 F_Arranger_delayPoints_67 rfl rfl (fun _ => ?_) (fun h67 => absurd h67 ho)
          refine Rg.step 108 F_Arranger_delayPoints_107 rfl (fun _ => rfl) ?_
          refine Rg.getf 111 F_Arranger_delayPoints_108 rfl rF_13_24 gC_49 rfl ?_
          refine Rg.step 112 F_Arranger_delayPoints_111 rfl (fun _ => rfl) ?_
          refine Rg.step 114 F_Arranger_delayPoints_112 rfl (fun _ => rfl) ?_
          refine Rg.step 115 F_Arranger_delayPoints_114 rfl (fun _ => rfl) ?_
          refine Rg.getf 118 F_Arranger_delayPoints_115 rfl rF_13_24 gC_49 rfl ?_
          refine Rg.step 119 F_Arranger_delayPoints_118 rfl (fun _ => rfl) ?_
          refine Rg.lld 120 F_Arranger_delayPoints_119 rfl gC_53 (by omega) (by decide) ?_
          refine Rg.call 123 F_Arranger_delayPoints_120 rfl (one_S (by decide +kernel) rM_13_227 (by decide) (by simp) rfl rfl) (Nat.le_of_ble_eq_true rfl) (Cg.any (c_max2 (by omega) (by omega))) ?_
          refine Rg.lst 124 F_Arranger_delayPoints_123 rfl gC_53 (by decide) sC_arT (by omega) (by decide) ?_
          refine Rg.inc 127 F_Arranger_delayPoints_124 rfl rfl (by decide) ?_
          refine Rg.step 2 F_Arranger_delayPoints_127 rfl (fun _ => rfl) ?_
          exact Rg.weak ht (by simp [lput1, lput2, Value.category, fi0, fi1, fi2, fi3] <;> first | rfl | exact ⟨rfl, rfl⟩) (by simp [lput1, lput2, Value.category, fi0, fi1, fi2, fi3] <;> first | rfl | exact ⟨rfl, rfl⟩)
theorem c_Ar_dp {d : Nat} (hR : 0 ≤ R ∧ R ≤ 24) (hr : ∀ i, 0 ≤ i → i < R → 0 ≤ arR i ∧ arR i < 24) (hL : ∀ i, 0 ≤ i → i < R → -1 ≤ arL i ∧ arL i < 24 ∧ (¬ arL i = -1 → 0 ≤ arL i ∧ arL i < i)) (hS : ∀ i, 0 ≤ i → i < R → ¬ arR i % 2 = 0 → 0 ≤ arS (arR i / 2) ∧ arS (arR i / 2) < i ∧ arR (arS (arR i / 2)) % 2 = 0) (hLU : ∀ i, 0 ≤ i → i < R → 0 ≤ arLU (arR i / 2) ∧ arLU (arR i / 2) ≤ 1000000000) (hGU : ∀ i, 0 ≤ i → i < R → 0 ≤ arGU (arR i / 2) ∧ arGU (arR i / 2) ≤ 1000000000) (hEu : 0 ≤ Eu ∧ Eu ≤ 1000000000) {b : Int} (hb : 0 ≤ b ∧ b ≤ 10000000000000) (ht0 : ∀ k, 0 ≤ arT k ∧ arT k ≤ b) : ∃ t1, DPI R arR arL arS arLU Eu (UP R arR arL arS arLU arGU arH Eu) arT b R t1 ∧ Cg false (d + 1) m_Arranger_delayPoints [.ref 49, .long (lI Eu)] (MC s0 s1 handN handD gT gF alE actions alM fiF fiN fiD epN epD goH goN goD plS plP plM plA plBN plBD plLN plLD plR veW veF veP vsF vsN vsD juM juP juTN juTD juO scN scD noF noN noD neF neN neD R arB arM arU arF arR arL arT arA arS leN leD grN grD arH arLU arGU shN shD stF stN stD rest) (.inl none) (MC s0 s1 handN handD gT gF alE actions alM fiF fiN fiD epN epD goH goN goD plS plP plM plA plBN plBD plLN plLD plR veW veF veP vsF vsN vsD juM juP juTN juTD juO scN scD noF noN noD neF neN neD R arB arM arU arF arR arL t1 arA arS leN leD grN grD arH arLU arGU shN shD stF stN stD rest) := by
  obtain ⟨t1, j1, ht⟩ := dp_loop (d := d) (n0 := (MC s0 s1 handN handD gT gF alE actions alM fiF fiN fiD epN epD goH goN goD plS plP plM plA plBN plBD plLN plLD plR veW veF veP vsF vsN vsD juM juP juTN juTD juO scN scD noF noN noD neF neN neD R arB arM arU arF arR arL arT arA arS leN leD grN grD arH arLU arGU shN shD stF stN stD rest).length) (s0 := s0) (s1 := s1) (rest := rest) (handN := handN) (handD := handD) (gT := gT) (gF := gF) (alE := alE) (alM := alM) (fiF := fiF) (fiN := fiN) (fiD := fiD) (epN := epN) (epD := epD) (goH := goH) (goN := goN) (goD := goD) (plS := plS) (plP := plP) (plM := plM) (plA := plA) (plBN := plBN) (plBD := plBD) (plLN := plLN) (plLD := plLD) (plR := plR) (veW := veW) (veF := veF) (veP := veP) (vsF := vsF) (vsN := vsN) (vsD := vsD) (juM := juM) (juP := juP) (juTN := juTN) (juTD := juTD) (juO := juO) (scN := scN) (scD := scD) (noF := noF) (noN := noN) (noD := noD) (neF := neF) (neN := neN) (neD := neD) (arB := arB) (arM := arM) (arU := arU) (arF := arF) (arR := arR) (arL := arL) (arA := arA) (arS := arS) (leN := leN) (leD := leD) (grN := grN) (grD := grD) (arH := arH) (arLU := arLU) (arGU := arGU) (shN := shN) (shD := shD) (stF := stF) (stN := stN) (stD := stD) hR hr hL hS hLU hGU hEu hb R.toNat 0 arT (by omega) (by omega) ⟨fun i => Int.le_refl _, ⟨fun k z1 z2 => by omega, fun k z1 z2 => by omega, fun k z1 z2 => by omega⟩, fun u _ h => h, fun i => by have := ht0 i; omega, fun i _ => rfl⟩
  refine ⟨t1, j1, ?_⟩
  refine Cg.of (Nat.le_of_ble_eq_true rfl) ?_
  change Rg _ _ _ _ 0 [(0, .ref 49), (1, .long (lI Eu))] [] _ _ _
  refine Rg.step 1 F_Arranger_delayPoints_0 rfl (fun _ => rfl) ?_
  refine Rg.step 2 F_Arranger_delayPoints_1 rfl (fun _ => rfl) ?_
  exact Rg.weak ht (by simp [lput1, lput2, Value.category, fi0, fi1, fi2, fi3] <;> first | rfl | exact ⟨rfl, rfl⟩) (by simp [lput1, lput2, Value.category, fi0, fi1, fi2, fi3] <;> first | rfl | exact ⟨rfl, rfl⟩)
theorem ds_loop {d n0 : Nat} (hR : 0 ≤ R ∧ R ≤ 24) (hr : ∀ i, 0 ≤ i → i < R → 0 ≤ arR i ∧ arR i < 24) (hL : ∀ i, 0 ≤ i → i < R → -1 ≤ arL i ∧ arL i < 24 ∧ (¬ arL i = -1 → 0 ≤ arL i ∧ arL i < i)) (hS : ∀ i, 0 ≤ i → i < R → ¬ arR i % 2 = 0 → 0 ≤ arS (arR i / 2) ∧ arS (arR i / 2) < i ∧ arR (arS (arR i / 2)) % 2 = 0) (hLU : ∀ i, 0 ≤ i → i < R → 0 ≤ arLU (arR i / 2) ∧ arLU (arR i / 2) ≤ 1000000000) (hGU : ∀ i, 0 ≤ i → i < R → 0 ≤ arGU (arR i / 2) ∧ arGU (arR i / 2) ≤ 1000000000) (hEu : 0 ≤ Eu ∧ Eu ≤ 1000000000) {a : Int → Int} {c : Int} (hc : 0 ≤ c ∧ c ≤ 100000000000000) : ∀ (n : Nat) (k : Int) (t : Int → Int) (A : Prop), k + n = R → 0 ≤ k → LInv R (UP R arR arL arS arLU arGU arH Eu) a t A c → (∀ i, 0 ≤ i → i < R → ¬ arR i % 2 = 0 → t i = a i) → (∀ i, 0 ≤ i → i < k → ¬ arR i % 2 = 0 → arH (arR i / 2) → a i - arGU (arR i / 2) ≤ t (arS (arR i / 2))) → ∃ t1 A1, LInv R (UP R arR arL arS arLU arGU arH Eu) a t1 A1 c ∧ Bwd R arR arS arGU arH a t1 ∧ Rg false (d + 1) m_Arranger_delayStarts n0 4 [(2, .int (iI k)), (1, .int (bP A)), (0, .ref 49)] [] (MC s0 s1 handN handD gT gF alE actions alM fiF fiN fiD epN epD goH goN goD plS plP plM plA plBN plBD plLN plLD plR veW veF veP vsF vsN vsD juM juP juTN juTD juO scN scD noF noN noD neF neN neD R arB arM arU arF arR arL t arA arS leN leD grN grD arH arLU arGU shN shD stF stN stD rest) (.inl (some (.int (bP A1)))) (MC s0 s1 handN handD gT gF alE actions alM fiF fiN fiD epN epD goH goN goD plS plP plM plA plBN plBD plLN plLD plR veW veF veP vsF vsN vsD juM juP juTN juTD juO scN scD noF noN noD neF neN neD R arB arM arU arF arR arL t1 arA arS leN leD grN grD arH arLU arGU shN shD stF stN stD rest) := by
  intro n
  induction n with
  | zero =>
    intro k t A hk hk2 hI hE1 hB
    have ek : k = R := by omega
    subst ek
    refine ⟨t, A, hI, hB, ?_⟩
    refine Rg.step 5 F_Arranger_delayStarts_4 rfl (fun _ => rfl) ?_
    refine Rg.step 6 F_Arranger_delayStarts_5 rfl (fun _ => rfl) ?_
    refine Rg.getf 9 F_Arranger_delayStarts_6 rfl rF_13_64 gC_49 rfl ?_
    refine Rg.icgeI 95 12 F_Arranger_delayStarts_9 rfl rfl (by omega) (by omega) (fun _ => ?_) (fun h9 => by omega)
    refine Rg.step 96 F_Arranger_delayStarts_95 rfl (fun _ => rfl) ?_
    exact Rg.retP F_Arranger_delayStarts_96 rfl Iff.rfl rfl
  | succ n ih =>
    intro k t A hk hk2 hI hE1 hB
    have r1 := hr k hk2 (by omega)
    have gu := hGU k hk2 (by omega)
    have tb := hI.2.2.2.1
    have tk := tb k
    have ts := tb (arS (arR k / 2))
    by_cases hact : ¬ arR k % 2 = 0 ∧ arH (arR k / 2)
    · obtain ⟨ho, hH⟩ := hact
      obtain ⟨q1, q2, q3⟩ := hS k hk2 (by omega) ho
      have ek := hE1 k hk2 (by omega) ho
      by_cases hmv : t (arS (arR k / 2)) < t k - arGU (arR k / 2)
      · have hn := hI.lf (p := (arS (arR k / 2))) (v := (t k - arGU (arR k / 2))) (b1 := c) (by omega) (fun w hu hw => by
          have w1 := hu.2.2 k hk2 (by omega) ho hH
          have w2 := hw k
          omega) (by omega) (by omega)
        rw [lf_yes hmv] at hn
        obtain ⟨t1, A1, j1, j2, ht⟩ := ih (k + 1) (up1 t (arS (arR k / 2)) (t k - arGU (arR k / 2))) (A ∨ t (arS (arR k / 2)) < (t k - arGU (arR k / 2))) (by omega) (by omega) hn (fun i z1 z2 z3 => by
          rw [up1_ne _ _ (fun z => z3 (by rw [z]; exact q3))]
          exact hE1 i z1 z2 z3) (fun i z1 z2 z3 z4 => by
          by_cases hi : i = k
          · rw [hi, up1_eq]; omega
          · by_cases hq : arS (arR i / 2) = (arS (arR k / 2))
            · have y1 := hB i z1 (by omega) z3 z4
              rw [hq] at y1 ⊢
              rw [up1_eq]
              omega
            · rw [up1_ne _ _ hq]
              exact hB i z1 (by omega) z3 z4)
        refine ⟨t1, A1, j1, j2, ?_⟩
        refine Rg.step 5 F_Arranger_delayStarts_4 rfl (fun _ => rfl) ?_
        refine Rg.step 6 F_Arranger_delayStarts_5 rfl (fun _ => rfl) ?_
        refine Rg.getf 9 F_Arranger_delayStarts_6 rfl rF_13_64 gC_49 rfl ?_
        refine Rg.icgeI 95 12 F_Arranger_delayStarts_9 rfl rfl (by omega) (by omega) (fun h9 => by omega) (fun _ => ?_)
        refine Rg.step 13 F_Arranger_delayStarts_12 rfl (fun _ => rfl) ?_
        refine Rg.getf 16 F_Arranger_delayStarts_13 rfl rF_13_17 gC_49 rfl ?_
        refine Rg.step 17 F_Arranger_delayStarts_16 rfl (fun _ => rfl) ?_
        refine Rg.ild 18 F_Arranger_delayStarts_17 rfl gC_51 (by omega) (by decide) ?_
        refine Rg.step 19 F_Arranger_delayStarts_18 rfl (fun _ => rfl) ?_
        refine Rg.divIp 20 F_Arranger_delayStarts_19 rfl (by omega) (by omega) ?_
        refine Rg.step 21 F_Arranger_delayStarts_20 rfl (fun _ => rfl) ?_
        refine Rg.step 22 F_Arranger_delayStarts_21 rfl (fun _ => rfl) ?_
        refine Rg.getf 25 F_Arranger_delayStarts_22 rfl rF_13_17 gC_49 rfl ?_
        refine Rg.step 26 F_Arranger_delayStarts_25 rfl (fun _ => rfl) ?_
        refine Rg.ild 27 F_Arranger_delayStarts_26 rfl gC_51 (by omega) (by decide) ?_
        refine Rg.call 30 F_Arranger_delayStarts_27 rfl (one_S (by decide +kernel) rM_13_134 (by decide) (by simp) rfl rfl) (Nat.le_of_ble_eq_true rfl) (Cg.any (c_PJ_isEnd (by omega))) ?_
        refine Rg.ifeqP 89 33 F_Arranger_delayStarts_30 rfl rfl (fun h30 => absurd ho h30) (fun _ => ?_)
        refine Rg.step 34 F_Arranger_delayStarts_33 rfl (fun _ => rfl) ?_
        refine Rg.getf 37 F_Arranger_delayStarts_34 rfl rF_13_46 gC_49 rfl ?_
        refine Rg.step 38 F_Arranger_delayStarts_37 rfl (fun _ => rfl) ?_
        refine Rg.zld 39 F_Arranger_delayStarts_38 rfl gC_62 (by omega) (by decide) ?_
        refine Rg.ifeqP 89 42 F_Arranger_delayStarts_39 rfl rfl (fun h39 => absurd hH h39) (fun _ => ?_)
        refine Rg.step 43 F_Arranger_delayStarts_42 rfl (fun _ => rfl) ?_
        refine Rg.getf 46 F_Arranger_delayStarts_43 rfl rF_13_24 gC_49 rfl ?_
        refine Rg.step 47 F_Arranger_delayStarts_46 rfl (fun _ => rfl) ?_
        refine Rg.lld 48 F_Arranger_delayStarts_47 rfl gC_53 (by omega) (by decide) ?_
        refine Rg.step 49 F_Arranger_delayStarts_48 rfl (fun _ => rfl) ?_
        refine Rg.getf 52 F_Arranger_delayStarts_49 rfl rF_13_53 gC_49 rfl ?_
        refine Rg.step 53 F_Arranger_delayStarts_52 rfl (fun _ => rfl) ?_
        refine Rg.lld 54 F_Arranger_delayStarts_53 rfl gC_64 (by omega) (by decide) ?_
        refine Rg.subL 55 F_Arranger_delayStarts_54 rfl ?_
        refine Rg.step 57 F_Arranger_delayStarts_55 rfl (fun _ => rfl) ?_
        refine Rg.step 59 F_Arranger_delayStarts_57 rfl (fun _ => rfl) ?_
        refine Rg.step 60 F_Arranger_delayStarts_59 rfl (fun _ => rfl) ?_
        refine Rg.getf 63 F_Arranger_delayStarts_60 rfl rF_13_24 gC_49 rfl ?_
        refine Rg.step 64 F_Arranger_delayStarts_63 rfl (fun _ => rfl) ?_
        refine Rg.getf 67 F_Arranger_delayStarts_64 rfl rF_13_31 gC_49 rfl ?_
        refine Rg.step 68 F_Arranger_delayStarts_67 rfl (fun _ => rfl) ?_
        refine Rg.ild 69 F_Arranger_delayStarts_68 rfl gC_55 (by omega) (by decide) ?_
        refine Rg.lld 70 F_Arranger_delayStarts_69 rfl gC_53 (by omega) (by decide) ?_
        refine Rg.lcle 89 74 F_Arranger_delayStarts_70 F_Arranger_delayStarts_71 rfl rfl (by omega) (by omega) (fun h70 => by omega) (fun _ => ?_)
        refine Rg.step 75 F_Arranger_delayStarts_74 rfl (fun _ => rfl) ?_
        refine Rg.getf 78 F_Arranger_delayStarts_75 rfl rF_13_24 gC_49 rfl ?_
        refine Rg.step 79 F_Arranger_delayStarts_78 rfl (fun _ => rfl) ?_
        refine Rg.getf 82 F_Arranger_delayStarts_79 rfl rF_13_31 gC_49 rfl ?_
        refine Rg.step 83 F_Arranger_delayStarts_82 rfl (fun _ => rfl) ?_
        refine Rg.ild 84 F_Arranger_delayStarts_83 rfl gC_55 (by omega) (by decide) ?_
        refine Rg.step 86 F_Arranger_delayStarts_84 rfl (fun _ => rfl) ?_
        refine Rg.lst 87 F_Arranger_delayStarts_86 rfl gC_53 (by decide) sC_arT (by omega) (by decide) ?_
        refine Rg.cP1 (B := (A ∨ t (arS (arR k / 2)) < (t k - arGU (arR k / 2)))) 88 F_Arranger_delayStarts_87 rfl (Or.inr hmv) ?_
        refine Rg.step 89 F_Arranger_delayStarts_88 rfl (fun _ => rfl) ?_
        refine Rg.inc 92 F_Arranger_delayStarts_89 rfl rfl (by decide) ?_
        refine Rg.step 4 F_Arranger_delayStarts_92 rfl (fun _ => rfl) ?_
        exact Rg.weak ht (by simp [lput1, lput2, Value.category, fi0, fi1, fi2, fi3] <;> first | rfl | exact ⟨rfl, rfl⟩) (by simp [lput1, lput2, Value.category, fi0, fi1, fi2, fi3] <;> first | rfl | exact ⟨rfl, rfl⟩)
      · obtain ⟨t1, A1, j1, j2, ht⟩ := ih (k + 1) t A (by omega) (by omega) hI hE1 (fun i z1 z2 z3 z4 => by
          by_cases hi : i = k
          · rw [hi]; omega
          · exact hB i z1 (by omega) z3 z4)
        refine ⟨t1, A1, j1, j2, ?_⟩
        refine Rg.step 5 F_Arranger_delayStarts_4 rfl (fun _ => rfl) ?_
        refine Rg.step 6 F_Arranger_delayStarts_5 rfl (fun _ => rfl) ?_
        refine Rg.getf 9 F_Arranger_delayStarts_6 rfl rF_13_64 gC_49 rfl ?_
        refine Rg.icgeI 95 12 F_Arranger_delayStarts_9 rfl rfl (by omega) (by omega) (fun h9 => by omega) (fun _ => ?_)
        refine Rg.step 13 F_Arranger_delayStarts_12 rfl (fun _ => rfl) ?_
        refine Rg.getf 16 F_Arranger_delayStarts_13 rfl rF_13_17 gC_49 rfl ?_
        refine Rg.step 17 F_Arranger_delayStarts_16 rfl (fun _ => rfl) ?_
        refine Rg.ild 18 F_Arranger_delayStarts_17 rfl gC_51 (by omega) (by decide) ?_
        refine Rg.step 19 F_Arranger_delayStarts_18 rfl (fun _ => rfl) ?_
        refine Rg.divIp 20 F_Arranger_delayStarts_19 rfl (by omega) (by omega) ?_
        refine Rg.step 21 F_Arranger_delayStarts_20 rfl (fun _ => rfl) ?_
        refine Rg.step 22 F_Arranger_delayStarts_21 rfl (fun _ => rfl) ?_
        refine Rg.getf 25 F_Arranger_delayStarts_22 rfl rF_13_17 gC_49 rfl ?_
        refine Rg.step 26 F_Arranger_delayStarts_25 rfl (fun _ => rfl) ?_
        refine Rg.ild 27 F_Arranger_delayStarts_26 rfl gC_51 (by omega) (by decide) ?_
        refine Rg.call 30 F_Arranger_delayStarts_27 rfl (one_S (by decide +kernel) rM_13_134 (by decide) (by simp) rfl rfl) (Nat.le_of_ble_eq_true rfl) (Cg.any (c_PJ_isEnd (by omega))) ?_
        refine Rg.ifeqP 89 33 F_Arranger_delayStarts_30 rfl rfl (fun h30 => absurd ho h30) (fun _ => ?_)
        refine Rg.step 34 F_Arranger_delayStarts_33 rfl (fun _ => rfl) ?_
        refine Rg.getf 37 F_Arranger_delayStarts_34 rfl rF_13_46 gC_49 rfl ?_
        refine Rg.step 38 F_Arranger_delayStarts_37 rfl (fun _ => rfl) ?_
        refine Rg.zld 39 F_Arranger_delayStarts_38 rfl gC_62 (by omega) (by decide) ?_
        refine Rg.ifeqP 89 42 F_Arranger_delayStarts_39 rfl rfl (fun h39 => absurd hH h39) (fun _ => ?_)
        refine Rg.step 43 F_Arranger_delayStarts_42 rfl (fun _ => rfl) ?_
        refine Rg.getf 46 F_Arranger_delayStarts_43 rfl rF_13_24 gC_49 rfl ?_
        refine Rg.step 47 F_Arranger_delayStarts_46 rfl (fun _ => rfl) ?_
        refine Rg.lld 48 F_Arranger_delayStarts_47 rfl gC_53 (by omega) (by decide) ?_
        refine Rg.step 49 F_Arranger_delayStarts_48 rfl (fun _ => rfl) ?_
        refine Rg.getf 52 F_Arranger_delayStarts_49 rfl rF_13_53 gC_49 rfl ?_
        refine Rg.step 53 F_Arranger_delayStarts_52 rfl (fun _ => rfl) ?_
        refine Rg.lld 54 F_Arranger_delayStarts_53 rfl gC_64 (by omega) (by decide) ?_
        refine Rg.subL 55 F_Arranger_delayStarts_54 rfl ?_
        refine Rg.step 57 F_Arranger_delayStarts_55 rfl (fun _ => rfl) ?_
        refine Rg.step 59 F_Arranger_delayStarts_57 rfl (fun _ => rfl) ?_
        refine Rg.step 60 F_Arranger_delayStarts_59 rfl (fun _ => rfl) ?_
        refine Rg.getf 63 F_Arranger_delayStarts_60 rfl rF_13_24 gC_49 rfl ?_
        refine Rg.step 64 F_Arranger_delayStarts_63 rfl (fun _ => rfl) ?_
        refine Rg.getf 67 F_Arranger_delayStarts_64 rfl rF_13_31 gC_49 rfl ?_
        refine Rg.step 68 F_Arranger_delayStarts_67 rfl (fun _ => rfl) ?_
        refine Rg.ild 69 F_Arranger_delayStarts_68 rfl gC_55 (by omega) (by decide) ?_
        refine Rg.lld 70 F_Arranger_delayStarts_69 rfl gC_53 (by omega) (by decide) ?_
        refine Rg.lcle 89 74 F_Arranger_delayStarts_70 F_Arranger_delayStarts_71 rfl rfl (by omega) (by omega) (fun _ => ?_) (fun h70 => by omega)
        refine Rg.inc 92 F_Arranger_delayStarts_89 rfl rfl (by decide) ?_
        refine Rg.step 4 F_Arranger_delayStarts_92 rfl (fun _ => rfl) ?_
        exact Rg.weak ht (by simp [lput1, lput2, Value.category, fi0, fi1, fi2, fi3] <;> first | rfl | exact ⟨rfl, rfl⟩) (by simp [lput1, lput2, Value.category, fi0, fi1, fi2, fi3] <;> first | rfl | exact ⟨rfl, rfl⟩)
    · obtain ⟨t1, A1, j1, j2, ht⟩ := ih (k + 1) t A (by omega) (by omega) hI hE1 (fun i z1 z2 z3 z4 => by
        by_cases hi : i = k
        · rw [hi] at z3 z4; exact absurd ⟨z3, z4⟩ hact
        · exact hB i z1 (by omega) z3 z4)
      refine ⟨t1, A1, j1, j2, ?_⟩
      refine Rg.step 5 F_Arranger_delayStarts_4 rfl (fun _ => rfl) ?_
      refine Rg.step 6 F_Arranger_delayStarts_5 rfl (fun _ => rfl) ?_
      refine Rg.getf 9 F_Arranger_delayStarts_6 rfl rF_13_64 gC_49 rfl ?_
      refine Rg.icgeI 95 12 F_Arranger_delayStarts_9 rfl rfl (by omega) (by omega) (fun h9 => by omega) (fun _ => ?_)
      refine Rg.step 13 F_Arranger_delayStarts_12 rfl (fun _ => rfl) ?_
      refine Rg.getf 16 F_Arranger_delayStarts_13 rfl rF_13_17 gC_49 rfl ?_
      refine Rg.step 17 F_Arranger_delayStarts_16 rfl (fun _ => rfl) ?_
      refine Rg.ild 18 F_Arranger_delayStarts_17 rfl gC_51 (by omega) (by decide) ?_
      refine Rg.step 19 F_Arranger_delayStarts_18 rfl (fun _ => rfl) ?_
      refine Rg.divIp 20 F_Arranger_delayStarts_19 rfl (by omega) (by omega) ?_
      refine Rg.step 21 F_Arranger_delayStarts_20 rfl (fun _ => rfl) ?_
      refine Rg.step 22 F_Arranger_delayStarts_21 rfl (fun _ => rfl) ?_
      refine Rg.getf 25 F_Arranger_delayStarts_22 rfl rF_13_17 gC_49 rfl ?_
      refine Rg.step 26 F_Arranger_delayStarts_25 rfl (fun _ => rfl) ?_
      refine Rg.ild 27 F_Arranger_delayStarts_26 rfl gC_51 (by omega) (by decide) ?_
      refine Rg.call 30 F_Arranger_delayStarts_27 rfl (one_S (by decide +kernel) rM_13_134 (by decide) (by simp) rfl rfl) (Nat.le_of_ble_eq_true rfl) (Cg.any (c_PJ_isEnd (by omega))) ?_
      refine Rg.ifeqP 89 33 F_Arranger_delayStarts_30 rfl rfl (fun h30 => ?_) (fun h30 => ?_)
      · refine Rg.inc 92 F_Arranger_delayStarts_89 rfl rfl (by decide) ?_
        refine Rg.step 4 F_Arranger_delayStarts_92 rfl (fun _ => rfl) ?_
        exact Rg.weak ht (by simp [lput1, lput2, Value.category, fi0, fi1, fi2, fi3] <;> first | rfl | exact ⟨rfl, rfl⟩) (by simp [lput1, lput2, Value.category, fi0, fi1, fi2, fi3] <;> first | rfl | exact ⟨rfl, rfl⟩)
      · refine Rg.step 34 F_Arranger_delayStarts_33 rfl (fun _ => rfl) ?_
        refine Rg.getf 37 F_Arranger_delayStarts_34 rfl rF_13_46 gC_49 rfl ?_
        refine Rg.step 38 F_Arranger_delayStarts_37 rfl (fun _ => rfl) ?_
        refine Rg.zld 39 F_Arranger_delayStarts_38 rfl gC_62 (by omega) (by decide) ?_
        refine Rg.ifeqP 89 42 F_Arranger_delayStarts_39 rfl rfl (fun _ => ?_) (fun h39 => absurd ⟨h30, h39⟩ hact)
        refine Rg.inc 92 F_Arranger_delayStarts_89 rfl rfl (by decide) ?_
        refine Rg.step 4 F_Arranger_delayStarts_92 rfl (fun _ => rfl) ?_
        exact Rg.weak ht (by simp [lput1, lput2, Value.category, fi0, fi1, fi2, fi3] <;> first | rfl | exact ⟨rfl, rfl⟩) (by simp [lput1, lput2, Value.category, fi0, fi1, fi2, fi3] <;> first | rfl | exact ⟨rfl, rfl⟩)
theorem c_Ar_ds {d : Nat} (hR : 0 ≤ R ∧ R ≤ 24) (hr : ∀ i, 0 ≤ i → i < R → 0 ≤ arR i ∧ arR i < 24) (hL : ∀ i, 0 ≤ i → i < R → -1 ≤ arL i ∧ arL i < 24 ∧ (¬ arL i = -1 → 0 ≤ arL i ∧ arL i < i)) (hS : ∀ i, 0 ≤ i → i < R → ¬ arR i % 2 = 0 → 0 ≤ arS (arR i / 2) ∧ arS (arR i / 2) < i ∧ arR (arS (arR i / 2)) % 2 = 0) (hLU : ∀ i, 0 ≤ i → i < R → 0 ≤ arLU (arR i / 2) ∧ arLU (arR i / 2) ≤ 1000000000) (hGU : ∀ i, 0 ≤ i → i < R → 0 ≤ arGU (arR i / 2) ∧ arGU (arR i / 2) ≤ 1000000000) (hEu : 0 ≤ Eu ∧ Eu ≤ 1000000000) {c : Int} (hc : 0 ≤ c ∧ c ≤ 100000000000000) (ht0 : ∀ k, 0 ≤ arT k ∧ arT k ≤ c) : ∃ t1 A1, LInv R (UP R arR arL arS arLU arGU arH Eu) arT t1 A1 c ∧ Bwd R arR arS arGU arH arT t1 ∧ Cg false (d + 1) m_Arranger_delayStarts [.ref 49] (MC s0 s1 handN handD gT gF alE actions alM fiF fiN fiD epN epD goH goN goD plS plP plM plA plBN plBD plLN plLD plR veW veF veP vsF vsN vsD juM juP juTN juTD juO scN scD noF noN noD neF neN neD R arB arM arU arF arR arL arT arA arS leN leD grN grD arH arLU arGU shN shD stF stN stD rest) (.inl (some (.int (bP A1)))) (MC s0 s1 handN handD gT gF alE actions alM fiF fiN fiD epN epD goH goN goD plS plP plM plA plBN plBD plLN plLD plR veW veF veP vsF vsN vsD juM juP juTN juTD juO scN scD noF noN noD neF neN neD R arB arM arU arF arR arL t1 arA arS leN leD grN grD arH arLU arGU shN shD stF stN stD rest) := by
  obtain ⟨t1, A1, j1, j2, ht⟩ := ds_loop (d := d) (n0 := (MC s0 s1 handN handD gT gF alE actions alM fiF fiN fiD epN epD goH goN goD plS plP plM plA plBN plBD plLN plLD plR veW veF veP vsF vsN vsD juM juP juTN juTD juO scN scD noF noN noD neF neN neD R arB arM arU arF arR arL arT arA arS leN leD grN grD arH arLU arGU shN shD stF stN stD rest).length) (s0 := s0) (s1 := s1) (rest := rest) (handN := handN) (handD := handD) (gT := gT) (gF := gF) (alE := alE) (alM := alM) (fiF := fiF) (fiN := fiN) (fiD := fiD) (epN := epN) (epD := epD) (goH := goH) (goN := goN) (goD := goD) (plS := plS) (plP := plP) (plM := plM) (plA := plA) (plBN := plBN) (plBD := plBD) (plLN := plLN) (plLD := plLD) (plR := plR) (veW := veW) (veF := veF) (veP := veP) (vsF := vsF) (vsN := vsN) (vsD := vsD) (juM := juM) (juP := juP) (juTN := juTN) (juTD := juTD) (juO := juO) (scN := scN) (scD := scD) (noF := noF) (noN := noN) (noD := noD) (neF := neF) (neN := neN) (neD := neD) (arB := arB) (arM := arM) (arU := arU) (arF := arF) (arR := arR) (arL := arL) (arA := arA) (arS := arS) (leN := leN) (leD := leD) (grN := grN) (grD := grD) (arH := arH) (arLU := arLU) (arGU := arGU) (shN := shN) (shD := shD) (stF := stF) (stN := stN) (stD := stD) hR hr hL hS hLU hGU hEu hc R.toNat 0 arT False (by omega) (by omega) ⟨fun p => Int.le_refl _, ⟨False.elim, fun z => z rfl⟩, fun u _ z => z, ht0, fun p _ => rfl⟩ (fun i _ _ _ => rfl) (fun i z1 z2 => by omega)
  refine ⟨t1, A1, j1, j2, ?_⟩
  refine Cg.of (Nat.le_of_ble_eq_true rfl) ?_
  change Rg _ _ _ _ 0 [(0, .ref 49)] [] _ _ _
  refine Rg.cP0 (B := False) 1 F_Arranger_delayStarts_0 rfl (fun z => z) ?_
  refine Rg.step 2 F_Arranger_delayStarts_1 rfl (fun _ => rfl) ?_
  refine Rg.step 3 F_Arranger_delayStarts_2 rfl (fun _ => rfl) ?_
  refine Rg.step 4 F_Arranger_delayStarts_3 rfl (fun _ => rfl) ?_
  exact Rg.weak ht (by simp [lput1, lput2, Value.category, fi0, fi1, fi2, fi3] <;> first | rfl | exact ⟨rfl, rfl⟩) (by simp [lput1, lput2, Value.category, fi0, fi1, fi2, fi3] <;> first | rfl | exact ⟨rfl, rfl⟩)
theorem rd_loop {d n0 : Nat} (hR : 0 ≤ R ∧ R ≤ 24) (hr : ∀ i, 0 ≤ i → i < R → 0 ≤ arR i ∧ arR i < 24) (hL : ∀ i, 0 ≤ i → i < R → -1 ≤ arL i ∧ arL i < 24 ∧ (¬ arL i = -1 → 0 ≤ arL i ∧ arL i < i)) (hS : ∀ i, 0 ≤ i → i < R → ¬ arR i % 2 = 0 → 0 ≤ arS (arR i / 2) ∧ arS (arR i / 2) < i ∧ arR (arS (arR i / 2)) % 2 = 0) (hLU : ∀ i, 0 ≤ i → i < R → 0 ≤ arLU (arR i / 2) ∧ arLU (arR i / 2) ≤ 1000000000) (hGU : ∀ i, 0 ≤ i → i < R → 0 ≤ arGU (arR i / 2) ∧ arGU (arR i / 2) ≤ 1000000000) (hEu : 0 ≤ Eu ∧ Eu ≤ 1000000000) (hm : 0 ≤ m ∧ m ≤ 12) (hSm : ∀ i, 0 ≤ i → i < R → ¬ arR i % 2 = 0 → 0 ≤ arR i / 2 ∧ arR i / 2 < m) : ∀ (n : Nat) (j : Int) (t : Int → Int), j + n = m + 1 → 0 ≤ j → (∀ k, 0 ≤ t k ∧ t k ≤ 100000000000 * j) → (∀ w, (UP R arR arL arS arLU arGU arH Eu) w → ∀ k, t k ≤ w k) → (∀ w, MinU (UP R arR arL arS arLU arGU arH Eu) R.toNat w → j.toNat ≤ cntP (fun s => t (arS s) = w (arS s)) m.toNat) → ∃ (V : Prop) (t1 : Int → Int), ((¬ V ∧ ¬ ∃ w, (UP R arR arL arS arLU arGU arH Eu) w) ∨ (V ∧ (UP R arR arL arS arLU arGU arH Eu) t1 ∧ ∀ w, (UP R arR arL arS arLU arGU arH Eu) w → ∀ k, t1 k ≤ w k)) ∧ (∀ k, 0 ≤ t1 k ∧ t1 k ≤ 10000000000000) ∧ Rg false (d + 2) m_Arranger_findTimes n0 107 [(4, .int (iI j)), (2, .long (lI Eu)), (0, .ref 49), (1, .ref 6)] [] (MC s0 s1 handN handD gT gF alE actions alM fiF fiN fiD epN epD goH goN goD plS plP plM plA plBN plBD plLN plLD plR veW veF veP vsF vsN vsD juM juP juTN juTD juO scN scD noF noN noD neF neN neD R m arM arU arF arR arL t arA arS leN leD grN grD arH arLU arGU shN shD stF stN stD rest) (.inl (some (.int (bP V)))) (MC s0 s1 handN handD gT gF alE actions alM fiF fiN fiD epN epD goH goN goD plS plP plM plA plBN plBD plLN plLD plR veW veF veP vsF vsN vsD juM juP juTN juTD juO scN scD noF noN noD neF neN neD R m arM arU arF arR arL t1 arA arS leN leD grN grD arH arLU arGU shN shD stF stN stD rest) := by
  intro n
  induction n with
  | zero =>
    intro j t hj hj2 hb hs hmn
    refine ⟨False, t, Or.inl ⟨fun z => z, cls_none (n := R.toNat) (c := m.toNat) (A := fun w s => t (arS s) = w (arS s)) (fun w z => z.1) (fun w hw => by have := hmn w hw; omega)⟩, fun k => by have := hb k; omega, ?_⟩
    refine Rg.step 109 F_Arranger_findTimes_107 rfl (fun _ => rfl) ?_
    refine Rg.step 110 F_Arranger_findTimes_109 rfl (fun _ => rfl) ?_
    refine Rg.getf 113 F_Arranger_findTimes_110 rfl rF_13_68 gC_49 rfl ?_
    refine Rg.icgtI 136 116 F_Arranger_findTimes_113 rfl rfl (by omega) (by omega) (fun _ => ?_) (fun h113 => by omega)
    refine Rg.step 137 F_Arranger_findTimes_136 rfl (fun _ => rfl) ?_
    exact Rg.ret0 F_Arranger_findTimes_137 rfl (fun z => z) rfl
  | succ n ih =>
    intro j t hj hj2 hb hs hmn
    obtain ⟨ta, a1, hca⟩ := c_Ar_dp (d := d) (s0 := s0) (s1 := s1) (rest := rest) (handN := handN) (handD := handD) (gT := gT) (gF := gF) (alE := alE) (alM := alM) (fiF := fiF) (fiN := fiN) (fiD := fiD) (epN := epN) (epD := epD) (goH := goH) (goN := goN) (goD := goD) (plS := plS) (plP := plP) (plM := plM) (plA := plA) (plBN := plBN) (plBD := plBD) (plLN := plLN) (plLD := plLD) (plR := plR) (veW := veW) (veF := veF) (veP := veP) (vsF := vsF) (vsN := vsN) (vsD := vsD) (juM := juM) (juP := juP) (juTN := juTN) (juTD := juTD) (juO := juO) (scN := scN) (scD := scD) (noF := noF) (noN := noN) (noD := noD) (neF := neF) (neN := neN) (neD := neD) (arB := m) (arM := arM) (arU := arU) (arF := arF) (arR := arR) (arL := arL) (arT := t) (arA := arA) (arS := arS) (leN := leN) (leD := leD) (grN := grN) (grD := grD) (arH := arH) (arLU := arLU) (arGU := arGU) (shN := shN) (shD := shD) (stF := stF) (stN := stN) (stD := stD) hR hr hL hS hLU hGU hEu (b := 100000000000 * j) (by omega) hb
    obtain ⟨tb, A1, b1, b2, hcb⟩ := c_Ar_ds (d := d) (s0 := s0) (s1 := s1) (rest := rest) (handN := handN) (handD := handD) (gT := gT) (gF := gF) (alE := alE) (alM := alM) (fiF := fiF) (fiN := fiN) (fiD := fiD) (epN := epN) (epD := epD) (goH := goH) (goN := goN) (goD := goD) (plS := plS) (plP := plP) (plM := plM) (plA := plA) (plBN := plBN) (plBD := plBD) (plLN := plLN) (plLD := plLD) (plR := plR) (veW := veW) (veF := veF) (veP := veP) (vsF := vsF) (vsN := vsN) (vsD := vsD) (juM := juM) (juP := juP) (juTN := juTN) (juTD := juTD) (juO := juO) (scN := scN) (scD := scD) (noF := noF) (noN := noN) (noD := noD) (neF := neF) (neN := neN) (neD := neD) (arB := m) (arM := arM) (arU := arU) (arF := arF) (arR := arR) (arL := arL) (arT := ta) (arA := arA) (arS := arS) (leN := leN) (leD := leD) (grN := grN) (grD := grD) (arH := arH) (arLU := arLU) (arGU := arGU) (shN := shN) (shD := shD) (stF := stF) (stN := stN) (stD := stD) hR hr hL hS hLU hGU hEu (c := 100000000000 * j + 1000000000 * R) (by omega) a1.2.2.2.1
    have hle : ∀ k, 0 ≤ tb k ∧ tb k ≤ 100000000000 * (j + 1) := fun k => by have := b1.2.2.2.1 k; omega
    have hau : ∀ w, (UP R arR arL arS arLU arGU arH Eu) w → ∀ k, ta k ≤ w k := fun w hw => a1.2.2.1 w hw (hs w hw)
    have hbu : ∀ w, (UP R arR arL arS arLU arGU arH Eu) w → ∀ k, tb k ≤ w k := fun w hw => b1.2.2.1 w hw (hau w hw)
    by_cases hA : A1
    · have eA : A1 = True := propext ⟨fun _ => trivial, fun _ => hA⟩
      subst eA
      obtain ⟨V, t1, hE1, hbb, ht⟩ := ih (j + 1) tb (by omega) (by omega) hle hbu (fun w hw => by
        have := cls_cnt (n := R.toNat) (m := m) (by omega) (fun k z1 z2 z3 => by
          have y1 := hS k z1 z2 z3
          have y2 := hSm k z1 z2 z3
          omega) (fun k z1 z2 z3 => by have := (hL k z1 z2).2.2 z3; omega) hw (hs w hw.1) a1.1 (fun k => (a1.2.2.2.1 k).1) (hau w hw.1) a1.2.1 b1 b2 trivial (hmn w hw)
        omega)
      refine ⟨V, t1, hE1, hbb, ?_⟩
      refine Rg.step 109 F_Arranger_findTimes_107 rfl (fun _ => rfl) ?_
      refine Rg.step 110 F_Arranger_findTimes_109 rfl (fun _ => rfl) ?_
      refine Rg.getf 113 F_Arranger_findTimes_110 rfl rF_13_68 gC_49 rfl ?_
      refine Rg.icgtI 136 116 F_Arranger_findTimes_113 rfl rfl (by omega) (by omega) (fun h113 => by omega) (fun _ => ?_)
      refine Rg.step 117 F_Arranger_findTimes_116 rfl (fun _ => rfl) ?_
      refine Rg.step 118 F_Arranger_findTimes_117 rfl (fun _ => rfl) ?_
      refine Rg.call 121 F_Arranger_findTimes_118 rfl (one_V rM_13_219 (by decide) (by simp) rfl rfl gC_49 rfl) (Nat.le_of_ble_eq_true rfl) hca ?_
      refine Rg.step 122 F_Arranger_findTimes_121 rfl (fun _ => rfl) ?_
      refine Rg.call 125 F_Arranger_findTimes_122 rfl (one_V rM_13_223 (by decide) (by simp) rfl rfl gC_49 rfl) (Nat.le_of_ble_eq_true rfl) hcb ?_
      refine Rg.ifneP 130 128 F_Arranger_findTimes_125 rfl rfl (fun _ => ?_) (fun h125 => absurd trivial h125)
      refine Rg.inc 133 F_Arranger_findTimes_130 rfl rfl (by decide) ?_
      refine Rg.step 107 F_Arranger_findTimes_133 rfl (fun _ => rfl) ?_
      exact Rg.weak ht (by simp [lput1, lput2, Value.category, fi0, fi1, fi2, fi3] <;> first | rfl | exact ⟨rfl, rfl⟩) (by simp [lput1, lput2, Value.category, fi0, fi1, fi2, fi3] <;> first | rfl | exact ⟨rfl, rfl⟩)
    · have eA : A1 = False := propext ⟨hA, False.elim⟩
      subst eA
      have et : tb = ta := Classical.byContradiction (fun z => b1.2.1.mpr z)
      subst et
      refine ⟨True, tb, Or.inr ⟨trivial, ⟨fun k => (hle k).1, a1.2.1, b2⟩, hbu⟩, fun k => by have := hle k; omega, ?_⟩
      refine Rg.step 109 F_Arranger_findTimes_107 rfl (fun _ => rfl) ?_
      refine Rg.step 110 F_Arranger_findTimes_109 rfl (fun _ => rfl) ?_
      refine Rg.getf 113 F_Arranger_findTimes_110 rfl rF_13_68 gC_49 rfl ?_
      refine Rg.icgtI 136 116 F_Arranger_findTimes_113 rfl rfl (by omega) (by omega) (fun h113 => by omega) (fun _ => ?_)
      refine Rg.step 117 F_Arranger_findTimes_116 rfl (fun _ => rfl) ?_
      refine Rg.step 118 F_Arranger_findTimes_117 rfl (fun _ => rfl) ?_
      refine Rg.call 121 F_Arranger_findTimes_118 rfl (one_V rM_13_219 (by decide) (by simp) rfl rfl gC_49 rfl) (Nat.le_of_ble_eq_true rfl) hca ?_
      refine Rg.step 122 F_Arranger_findTimes_121 rfl (fun _ => rfl) ?_
      refine Rg.call 125 F_Arranger_findTimes_122 rfl (one_V rM_13_223 (by decide) (by simp) rfl rfl gC_49 rfl) (Nat.le_of_ble_eq_true rfl) hcb ?_
      refine Rg.ifneP 130 128 F_Arranger_findTimes_125 rfl rfl (fun h125 => absurd h125 (fun z => z)) (fun _ => ?_)
      refine Rg.step 129 F_Arranger_findTimes_128 rfl (fun _ => rfl) ?_
      exact Rg.ret1 F_Arranger_findTimes_129 rfl trivial rfl
end R76
