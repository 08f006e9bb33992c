/-! The reference: a row is arranged. -/
theorem unitF_c {m : Int} {lN lD gN gD lN1 lD1 gN1 gD1 : Int → Int} (h : ∀ s, 0 ≤ s → s < m → lN1 s = lN s ∧ lD1 s = lD s ∧ gD1 s = gD s ∧ (¬ gD s = 0 → gN1 s = gN s)) : ∀ (n : Nat) (s u : Int), s + n = m → 0 ≤ s → unitF lN1 lD1 gN1 gD1 n s u = unitF lN lD gN gD n s u := by
  intro n
  induction n with
  | zero => intro s u _ _; rfl
  | succ n ih =>
    intro s u hs h0
    obtain ⟨h1, h2, h3, h4⟩ := h s h0 (by omega)
    rw [unitF, unitF, h1, h2, h3]
    refine congrArg _ (funext (fun u1 => ?_))
    rw [ih (s + 1) u1 (by omega) (by omega)]
    by_cases hg : gD s = 0
    · rw [if_pos hg, if_pos hg]
    · rw [if_neg hg, if_neg hg, h4 hg]
      exact congrArg _ (funext (fun u2 => ih (s + 1) u2 (by omega) (by omega)))
theorem unitA_c {eN eD m : Int} {lN lD gN gD lN1 lD1 gN1 gD1 : Int → Int} (hm : 0 ≤ m) (h : ∀ s, 0 ≤ s → s < m → lN1 s = lN s ∧ lD1 s = lD s ∧ gD1 s = gD s ∧ (¬ gD s = 0 → gN1 s = gN s)) : unitA eN eD m lN1 lD1 gN1 gD1 = unitA eN eD m lN lD gN gD := by
  unfold unitA
  exact congrArg _ (funext (fun u => unitF_c h m.toNat 0 u (by omega) (by omega)))
/-- the times that a row may have -/
def SolB (m R : Int) (row : Int → Int) (I : Int → Int → Prop) (eN eD u : Int) (lN lD gN gD : Int → Int) (t : Int → Int) : Prop := Sol m R row I (eN * (u / eD)) (fun s => lN s * (u / lD s)) (fun s => ¬ gD s = 0) (fun s => if gN s < 0 then -1 else gN s * (u / gD s)) t
theorem SolB_c {m R : Int} {row : Int → Int} {I : Int → Int → Prop} {eN eD u : Int} {lN lD gN gD lN1 lD1 gN1 gD1 : Int → Int} (h : ∀ s, 0 ≤ s → s < m → lN1 s = lN s ∧ lD1 s = lD s ∧ gD1 s = gD s ∧ (¬ gD s = 0 → gN1 s = gN s)) {t : Int → Int} : SolB m R row I eN eD u lN1 lD1 gN1 gD1 t ↔ SolB m R row I eN eD u lN lD gN gD t := by
  refine and_congr_right (fun _ => and_congr_right (fun _ => ?_))
  refine and_congr ?_ ?_
  · refine forall_congr' (fun s => forall_congr' (fun z1 => forall_congr' (fun z2 => ?_)))
    obtain ⟨h1, h2, h3, h4⟩ := h s z1 z2
    dsimp only
    rw [h1, h2]
  · refine forall_congr' (fun s => forall_congr' (fun z1 => forall_congr' (fun z2 => ?_)))
    obtain ⟨h1, h2, h3, h4⟩ := h s z1 z2
    dsimp only
    rw [h3]
    refine forall_congr' (fun z3 => ?_)
    rw [h4 z3]
/-- the least times have no wide gap -/
theorem sol_bd {m R : Int} {row : Int → Int} {I : Int → Int → Prop} {E : Int} {L : Int → Int} {has : Int → Prop} {G : Int → Int} {n : Nat} {W : Int} (hn : (n : Int) = 2 * m) (hrow : ∀ k, 0 ≤ k → k < R → 0 ≤ row k ∧ row k < 2 * m) (hW : 0 ≤ W) (hE : 0 ≤ E ∧ E ≤ W) (hL : ∀ s, 0 ≤ s → s < m → L s ≤ W) (hG : ∀ s, 0 ≤ s → s < m → has s → -W ≤ G s) {t : Int → Int} (hs : Sol m R row I E L has G t) (hl : ∀ u, Sol m R row I E L has G u → ∀ p, 0 ≤ p → p < 2 * m → t p ≤ u p) : ∀ p, 0 ≤ p → p < 2 * m → t p ≤ n * W := by
  intro p0 q1 q2
  refine Classical.byContradiction (fun hbig => ?_)
  have hgap : ∀ j : Nat, j < n → ∃ p, 0 ≤ p ∧ p < (n : Int) ∧ j * W < t p ∧ t p ≤ (j + 1) * W := by
    intro j hj
    refine Classical.byContradiction (fun hno => ?_)
    have hno : ∀ p, 0 ≤ p → p < (n : Int) → (j : Int) * W < t p → (j + 1) * W < t p := fun p z1 z2 z3 => Int.not_le.mp (fun z => hno ⟨p, z1, z2, z3, z⟩)
    have hjW : ((j : Int) + 1) * W = j * W + W := by rw [Int.add_mul, Int.one_mul]
    have hjn : ((j : Int) + 1) * W ≤ n * W := Int.mul_le_mul_of_nonneg_right (by omega) hW
    have h0j : 0 ≤ (j : Int) * W := Int.mul_nonneg (by omega) hW
    obtain ⟨s1, s2, s3, s4⟩ := hs
    have key : ∀ {q p w : Int}, 0 ≤ q → q < 2 * m → 0 ≤ p → p < 2 * m → w ≤ W → t q + w ≤ t p → less1 n (fun p => (j : Int) * W < t p) t q + w ≤ less1 n (fun p => (j : Int) * W < t p) t p := fun {q p w} z1 z2 z3 z4 z5 z6 => less1_edge z6 (fun y1 y2 => by
      have a1 := hno p y1.1 y1.2.1 y1.2.2
      have a2 : ¬ (j : Int) * W < t q := fun z => y2 ⟨z1, by omega, z⟩
      omega)
    have hS : Sol m R row I E L has G (less1 n (fun p => (j : Int) * W < t p) t) := by
      refine ⟨fun p => ?_, fun i k z1 z2 z3 => ?_, fun s z1 z2 => ?_, fun s z1 z2 z3 => ?_⟩
      · by_cases hp : 0 ≤ p ∧ p < (n : Int) ∧ (j : Int) * W < t p
        · rw [less1_in hp]
          omega
        · rw [less1_out hp]
          exact s1 p
      · have r1 := hrow i z1 (by omega)
        have r2 := hrow k (by omega) z3
        refine key r1.1 r1.2 r2.1 r2.2 ?_ (s2 i k z1 z2 z3)
        unfold wgt
        split <;> omega
      · exact key (by omega) (by omega) (by omega) (by omega) (hL s z1 z2) (s3 s z1 z2)
      · have := s4 s z1 z2 z3
        have := hG s z1 z2 z3
        have := key (q := 2 * s + 1) (p := 2 * s) (w := - G s) (by omega) (by omega) (by omega) (by omega) (by omega) (by omega)
        omega
    have := hl _ hS p0 q1 q2
    rw [less1_in ⟨q1, by omega, by omega⟩] at this
    omega
  have hcnt : ∀ j : Nat, j ≤ n → j ≤ cntP (fun p => t p ≤ j * W) n := by
    intro j
    induction j with
    | zero => intro _; exact Nat.zero_le _
    | succ j ih =>
      intro hj
      have h1 := ih (by omega)
      obtain ⟨p, p1, p2, p3, p4⟩ := hgap j (by omega)
      have e : ((j + 1 : Nat) : Int) * W = (j : Int) * W + W := by rw [Int.natCast_add, Int.add_mul]; simp
      have e2 : ((j : Int) + 1) * W = j * W + W := by rw [Int.add_mul, Int.one_mul]
      have := cntP_lt (A := fun p => t p ≤ ((j + 1 : Nat) : Int) * W) (B := fun p => t p ≤ (j : Int) * W) p1 (by omega) (by omega) n p2 (fun q _ _ z => by omega)
      omega
  have h1 := hcnt n (Nat.le_refl _)
  have h2 := cntP_lt (A := fun _ => True) (B := fun p => t p ≤ (n : Int) * W) q1 trivial hbig n (by omega) (fun _ _ _ _ => trivial)
  have h3 := cntP_b (fun _ => True) n
  omega
/-- a row is arranged: the fault, its point, the state, the unit and the times -/
def ArrR (m R : Int) (row : Int → Int) (FT : NS → Int → Int → Prop) (CC : NS → Int → Option NS) (BN : NS → Int → NB) (GO : NS → Prop) (I : Int → Int → Prop) (eN eD : Int) (S0 : NS) (why pt : Int) (S1 : NS) (u : Int) (t : Int → Int) : Prop :=
  ∃ why0 B1, WalkR m row FT CC BN GO R.toNat 0 (fun _ => False) S0 (fun _ => (0, 0, 0, 0)) why0 pt S1 B1 ∧ ((1 ≤ why0 ∧ why = why0) ∨ (why0 = 0 ∧ ((unitA eN eD m (fun s => (B1 s).1) (fun s => (B1 s).2.1) (fun s => (B1 s).2.2.1) (fun s => (B1 s).2.2.2) = none ∧ why = 8) ∨ (∃ u0, unitA eN eD m (fun s => (B1 s).1) (fun s => (B1 s).2.1) (fun s => (B1 s).2.2.1) (fun s => (B1 s).2.2.2) = some u0 ∧ ((why = 7 ∧ ¬ ∃ v, SolB m R row I eN eD u0 (fun s => (B1 s).1) (fun s => (B1 s).2.1) (fun s => (B1 s).2.2.1) (fun s => (B1 s).2.2.2) v) ∨ (why = 0 ∧ u = u0 ∧ SolB m R row I eN eD u0 (fun s => (B1 s).1) (fun s => (B1 s).2.1) (fun s => (B1 s).2.2.1) (fun s => (B1 s).2.2.2) t ∧ ∀ v, SolB m R row I eN eD u0 (fun s => (B1 s).1) (fun s => (B1 s).2.1) (fun s => (B1 s).2.2.1) (fun s => (B1 s).2.2.2) v → ∀ p, 0 ≤ p → p < 2 * m → t p ≤ v p))))))

section R55
variable {pre post mem : AM}
variable {code amountN amountD momentN momentD epsilonN epsilonD actions steps rows tried triedRows unit point judged fault faultPoint outN outD : Int}
variable {firstN firstD wishes wants wantN wantD needs needTime needOf needHow needN needD changes changeTime changeOf changeHow changeN changeD lastOf lastN lastD stepAction startN startD lengthN lengthD row triedAction triedRow times numN numD oldN oldD toldN toldD pointN pointD leastN leastD greatestN greatestD events : Int → Int}
variable {firstFacts facts oldFacts toldFacts gone now : Int → Prop}
theorem arr_rounds {d n0 : Nat} (hp : pre.length = 168) (hw : WT epsilonN epsilonD wishes wants wantN wantD actions needs needTime needOf needHow needN needD changes changeTime changeOf changeHow changeN changeD lastOf lastN lastD firstN firstD) (wT : ∀ s, 0 ≤ triedAction s ∧ triedAction s < 12) (wU : 0 ≤ tried ∧ tried ≤ 12) (wV : 0 ≤ triedRows ∧ triedRows ≤ 24) (hrow : ∀ k, 0 ≤ k → k < triedRows → 0 ≤ triedRow k ∧ triedRow k < 2 * tried) (hu : 0 < unit ∧ unit ≤ 100000) (hE : 0 ≤ (epsilonN * (unit / epsilonD)) ∧ (epsilonN * (unit / epsilonD)) ≤ 1000000000) (hL : ∀ s, 0 ≤ s → s < tried → (0 ≤ leastN s * (unit / leastD s) ∧ leastN s * (unit / leastD s) ≤ 1000000000) ∧ 0 < leastD s ∧ leastD s < 9223372036854775808) (hG : ∀ s, 0 ≤ s → s < tried → (0 ≤ greatestD s ∧ greatestD s < 9223372036854775808) ∧ (-9223372036854775808 ≤ greatestN s ∧ greatestN s < 9223372036854775808) ∧ (¬ greatestD s = 0 → 0 ≤ greatestN s → 0 ≤ greatestN s * (unit / greatestD s) ∧ greatestN s * (unit / greatestD s) ≤ 1000000000)) (hR : triedRows = 2 * tried) {w0 : Value} : ∀ (n : Nat) (j : Int) (t : Int → Int), j + n = triedRows + 1 → 0 ≤ j → (∀ p, 0 ≤ t p ∧ t p ≤ 1000000000000 * j) → (∀ u, (Sol tried triedRows triedRow (intP triedAction needs needTime needHow needOf lastOf changes changeTime changeHow changeOf) (epsilonN * (unit / epsilonD)) (fun s => leastN s * (unit / leastD s)) (fun s => ¬ greatestD s = 0) (fun s => if greatestN s < 0 then -1 else greatestN s * (unit / greatestD s))) u → ∀ p, t p ≤ u p) → (∀ u, MinU (Sol tried triedRows triedRow (intP triedAction needs needTime needHow needOf lastOf changes changeTime changeHow changeOf) (epsilonN * (unit / epsilonD)) (fun s => leastN s * (unit / leastD s)) (fun s => ¬ greatestD s = 0) (fun s => if greatestN s < 0 then -1 else greatestN s * (unit / greatestD s))) (2 * tried).toNat u → j.toNat ≤ cntP (fun p => t p = u p) (2 * tried).toNat) → ∃ (V : Int) (t1 : Int → Int), ((V = 7 ∧ ¬ ∃ u, (Sol tried triedRows triedRow (intP triedAction needs needTime needHow needOf lastOf changes changeTime changeHow changeOf) (epsilonN * (unit / epsilonD)) (fun s => leastN s * (unit / leastD s)) (fun s => ¬ greatestD s = 0) (fun s => if greatestN s < 0 then -1 else greatestN s * (unit / greatestD s))) u) ∨ (V = 0 ∧ (Sol tried triedRows triedRow (intP triedAction needs needTime needHow needOf lastOf changes changeTime changeHow changeOf) (epsilonN * (unit / epsilonD)) (fun s => leastN s * (unit / leastD s)) (fun s => ¬ greatestD s = 0) (fun s => if greatestN s < 0 then -1 else greatestN s * (unit / greatestD s))) t1 ∧ ∀ u, (Sol tried triedRows triedRow (intP triedAction needs needTime needHow needOf lastOf changes changeTime changeHow changeOf) (epsilonN * (unit / epsilonD)) (fun s => leastN s * (unit / leastD s)) (fun s => ¬ greatestD s = 0) (fun s => if greatestN s < 0 then -1 else greatestN s * (unit / greatestD s))) u → ∀ p, t1 p ≤ u p)) ∧ Rg false (d + 6) m_Mo_arranged n0 46 [(3, .int (bP True)), (2, .int (iI j)), (0, .ref 168)] [] (MR pre code amountN amountD momentN momentD epsilonN epsilonD firstFacts firstN firstD wishes wants wantN wantD actions needs needTime needOf needHow needN needD changes changeTime changeOf changeHow changeN changeD lastOf lastN lastD steps stepAction startN startD lengthN lengthD rows row tried triedAction triedRows triedRow t unit facts numN numD oldFacts oldN oldD point judged fault faultPoint toldFacts toldN toldD outN outD pointN pointD gone now leastN leastD greatestN greatestD events post) (.inl (some (.int (iI V)))) (MR pre code amountN amountD momentN momentD epsilonN epsilonD firstFacts firstN firstD wishes wants wantN wantD actions needs needTime needOf needHow needN needD changes changeTime changeOf changeHow changeN changeD lastOf lastN lastD steps stepAction startN startD lengthN lengthD rows row tried triedAction triedRows triedRow t1 unit facts numN numD oldFacts oldN oldD point judged fault faultPoint toldFacts toldN toldD outN outD pointN pointD gone now leastN leastD greatestN greatestD events post) := by
  intro n
  induction n with
  | zero =>
    intro j t hj hj2 hb hs hm
    refine ⟨7, t, Or.inl ⟨rfl, bf_none (n := (2 * tried).toNat) (A := fun u p => t p = u p) (fun u z => z.1) (fun u hu => ?_)⟩, ?_⟩
    · have := hm u hu
      omega
    · skip
      refine Rg.step 47 F_Mo_arranged_46 rfl (fun _ => rfl) ?_
      refine Rg.ifeqP 69 50 F_Mo_arranged_47 rfl rfl (fun h47 => absurd trivial h47) (fun _ => ?_)
      refine Rg.step 51 F_Mo_arranged_50 rfl (fun _ => rfl) ?_
      refine Rg.step 52 F_Mo_arranged_51 rfl (fun _ => rfl) ?_
      refine Rg.getf 55 F_Mo_arranged_52 rfl rF_26_283 (gM hp) rfl ?_
      refine Rg.icgtI 69 58 F_Mo_arranged_55 rfl rfl (by omega) (by omega) (fun _ => ?_) (fun h55 => by omega)
      refine Rg.step 70 F_Mo_arranged_69 rfl (fun _ => rfl) ?_
      refine Rg.ifeqP 78 73 F_Mo_arranged_70 rfl rfl (fun h70 => absurd trivial h70) (fun _ => ?_)
      refine Rg.bip 75 F_Mo_arranged_73 rfl rfl ?_
      refine Rg.step 79 F_Mo_arranged_75 rfl (fun _ => rfl) ?_
      exact Rg.retI F_Mo_arranged_79 rfl rfl rfl
  | succ n ih =>
    intro j t hj hj2 hb hs hm
    obtain ⟨t2, A2, i1, i2, hc⟩ := c_Mo_liftAll (d := d) (pre := pre) (post := post) (code := code) (amountN := amountN) (amountD := amountD) (momentN := momentN) (momentD := momentD) (epsilonN := epsilonN) (epsilonD := epsilonD) (firstFacts := firstFacts) (firstN := firstN) (firstD := firstD) (wishes := wishes) (wants := wants) (wantN := wantN) (wantD := wantD) (actions := actions) (needs := needs) (needTime := needTime) (needOf := needOf) (needHow := needHow) (needN := needN) (needD := needD) (changes := changes) (changeTime := changeTime) (changeOf := changeOf) (changeHow := changeHow) (changeN := changeN) (changeD := changeD) (lastOf := lastOf) (lastN := lastN) (lastD := lastD) (steps := steps) (stepAction := stepAction) (startN := startN) (startD := startD) (lengthN := lengthN) (lengthD := lengthD) (rows := rows) (row := row) (tried := tried) (triedAction := triedAction) (triedRows := triedRows) (triedRow := triedRow) (times := t) (unit := unit) (facts := facts) (numN := numN) (numD := numD) (oldFacts := oldFacts) (oldN := oldN) (oldD := oldD) (point := point) (judged := judged) (fault := fault) (faultPoint := faultPoint) (toldFacts := toldFacts) (toldN := toldN) (toldD := toldD) (outN := outN) (outD := outD) (pointN := pointN) (pointD := pointD) (gone := gone) (now := now) (leastN := leastN) (leastD := leastD) (greatestN := greatestN) (greatestD := greatestD) (events := events) hp hw wT wU wV hrow hu hE hL hG (b := 1000000000000 * j) (by omega) hb
    by_cases hA : A2
    · have eA : A2 = True := propext ⟨fun _ => trivial, fun _ => hA⟩
      subst eA
      obtain ⟨V, t1, hE1, ht⟩ := ih (j + 1) t2 (by omega) (by omega) (fun p => by have := i1.2.2.2.1 p; omega) (fun u hu => i1.2.2.1 u hu (hs u hu)) (fun u hu => by
        have := (bf_cnt (n := (2 * tried).toNat) (by omega) hrow hu (hs u hu.1) i1 i2 trivial (hm u hu)).2
        omega)
      refine ⟨V, t1, hE1, ?_⟩
      refine Rg.step 47 F_Mo_arranged_46 rfl (fun _ => rfl) ?_
      refine Rg.ifeqP 69 50 F_Mo_arranged_47 rfl rfl (fun h47 => absurd trivial h47) (fun _ => ?_)
      refine Rg.step 51 F_Mo_arranged_50 rfl (fun _ => rfl) ?_
      refine Rg.step 52 F_Mo_arranged_51 rfl (fun _ => rfl) ?_
      refine Rg.getf 55 F_Mo_arranged_52 rfl rF_26_283 (gM hp) rfl ?_
      refine Rg.icgtI 69 58 F_Mo_arranged_55 rfl rfl (by omega) (by omega) (fun h55 => by omega) (fun _ => ?_)
      refine Rg.step 59 F_Mo_arranged_58 rfl (fun _ => rfl) ?_
      refine Rg.call 62 F_Mo_arranged_59 rfl (one_V rM_26_382 (by decide) (by simp) rfl rfl (gM hp) rfl) (Nat.le_of_ble_eq_true rfl) hc ?_
      refine Rg.step 63 F_Mo_arranged_62 rfl (fun _ => rfl) ?_
      refine Rg.inc 66 F_Mo_arranged_63 rfl rfl (by decide) ?_
      refine Rg.step 46 F_Mo_arranged_66 rfl (fun _ => rfl) ?_
      exact Rg.weak ht (by simp [lput1, lput2, Value.category, fi0, fi1, fi2, fi3] <;> first | rfl | exact ⟨rfl, rfl⟩) (by simp [lput1, lput2, Value.category, fi0, fi1, fi2, fi3] <;> first | rfl | exact ⟨rfl, rfl⟩)
    · have eA : A2 = False := propext ⟨hA, False.elim⟩
      subst eA
      have et : t2 = t := Classical.byContradiction (fun z => i1.2.1.mpr z)
      subst et
      refine ⟨0, t2, Or.inr ⟨rfl, ⟨fun p => (hb p).1, i2⟩, hs⟩, ?_⟩
      refine Rg.step 47 F_Mo_arranged_46 rfl (fun _ => rfl) ?_
      refine Rg.ifeqP 69 50 F_Mo_arranged_47 rfl rfl (fun h47 => absurd trivial h47) (fun _ => ?_)
      refine Rg.step 51 F_Mo_arranged_50 rfl (fun _ => rfl) ?_
      refine Rg.step 52 F_Mo_arranged_51 rfl (fun _ => rfl) ?_
      refine Rg.getf 55 F_Mo_arranged_52 rfl rF_26_283 (gM hp) rfl ?_
      refine Rg.icgtI 69 58 F_Mo_arranged_55 rfl rfl (by omega) (by omega) (fun h55 => by omega) (fun _ => ?_)
      refine Rg.step 59 F_Mo_arranged_58 rfl (fun _ => rfl) ?_
      refine Rg.call 62 F_Mo_arranged_59 rfl (one_V rM_26_382 (by decide) (by simp) rfl rfl (gM hp) rfl) (Nat.le_of_ble_eq_true rfl) hc ?_
      refine Rg.step 63 F_Mo_arranged_62 rfl (fun _ => rfl) ?_
      refine Rg.inc 66 F_Mo_arranged_63 rfl rfl (by decide) ?_
      refine Rg.step 46 F_Mo_arranged_66 rfl (fun _ => rfl) ?_
      skip
      refine Rg.step 47 F_Mo_arranged_46 rfl (fun _ => rfl) ?_
      refine Rg.ifeqP 69 50 F_Mo_arranged_47 rfl rfl (fun _ => ?_) (fun h47 => absurd h47 (fun z => z))
      refine Rg.step 70 F_Mo_arranged_69 rfl (fun _ => rfl) ?_
      refine Rg.ifeqP 78 73 F_Mo_arranged_70 rfl rfl (fun _ => ?_) (fun h70 => absurd h70 (fun z => z))
      refine Rg.step 79 F_Mo_arranged_78 rfl (fun _ => rfl) ?_
      exact Rg.retI F_Mo_arranged_79 rfl rfl rfl
theorem tms_zero {d n0 : Nat} (hp : pre.length = 168) {o : Option Value ⊕ Nat} {mem1 : AM} (hg : Rg false d m_Mo_arranged n0 42 [(0, .ref 168)] [] (MR pre code amountN amountD momentN momentD epsilonN epsilonD firstFacts firstN firstD wishes wants wantN wantD actions needs needTime needOf needHow needN needD changes changeTime changeOf changeHow changeN changeD lastOf lastN lastD steps stepAction startN startD lengthN lengthD rows row tried triedAction triedRows triedRow (mix 24 (fun _ => (0 : Int)) times) unit facts numN numD oldFacts oldN oldD point judged fault faultPoint toldFacts toldN toldD outN outD pointN pointD gone now leastN leastD greatestN greatestD events post) o mem1) : ∀ (n : Nat) (k : Int), k + n = 24 → 0 ≤ k → Rg false d m_Mo_arranged n0 23 [(2, .int (iI k)), (0, .ref 168)] [] (MR pre code amountN amountD momentN momentD epsilonN epsilonD firstFacts firstN firstD wishes wants wantN wantD actions needs needTime needOf needHow needN needD changes changeTime changeOf changeHow changeN changeD lastOf lastN lastD steps stepAction startN startD lengthN lengthD rows row tried triedAction triedRows triedRow (mix k (fun _ => (0 : Int)) times) unit facts numN numD oldFacts oldN oldD point judged fault faultPoint toldFacts toldN toldD outN outD pointN pointD gone now leastN leastD greatestN greatestD events post) o mem1 := by
  intro n
  induction n with
  | zero =>
    intro k hk hk2
    have hk : k = 24 := by omega
    subst hk
    refine Rg.step 24 F_Mo_arranged_23 rfl (fun _ => rfl) ?_
    refine Rg.bip 26 F_Mo_arranged_24 rfl rfl ?_
    refine Rg.icgeI 42 29 F_Mo_arranged_26 rfl rfl (by omega) (by omega) (fun _ => ?_) (fun h26 => by omega)
    exact Rg.weak hg (by simp [lput1, lput2, Value.category, fi0, fi1, fi2, fi3] <;> first | rfl | exact ⟨rfl, rfl⟩) (by simp [lput1, lput2, Value.category, fi0, fi1, fi2, fi3] <;> first | rfl | exact ⟨rfl, rfl⟩)
  | succ n ih =>
    intro k hk hk2
    refine Rg.step 24 F_Mo_arranged_23 rfl (fun _ => rfl) ?_
    refine Rg.bip 26 F_Mo_arranged_24 rfl rfl ?_
    refine Rg.icgeI 42 29 F_Mo_arranged_26 rfl rfl (by omega) (by omega) (fun h26 => by omega) (fun _ => ?_)
    refine Rg.step 30 F_Mo_arranged_29 rfl (fun _ => rfl) ?_
    refine Rg.getf 33 F_Mo_arranged_30 rfl rF_26_117 (gM hp) rfl ?_
    refine Rg.step 34 F_Mo_arranged_33 rfl (fun _ => rfl) ?_
    refine Rg.lcn (n := 0) 35 F_Mo_arranged_34 rfl rfl ?_
    refine Rg.lst 36 F_Mo_arranged_35 rfl (gR_times hp) (by decide) (sR_times hp) (by omega) (by decide) ?_
    refine Rg.inc 39 F_Mo_arranged_36 rfl rfl (by decide) ?_
    refine Rg.step 23 F_Mo_arranged_39 rfl (fun _ => rfl) ?_
    rw [mix_up (f := (fun _ => (0 : Int)))]
    exact Rg.weak (ih (k + 1) (by omega) (by omega)) (by simp [lput1, lput2, Value.category, fi0, fi1, fi2, fi3] <;> first | rfl | exact ⟨rfl, rfl⟩) (by simp [lput1, lput2, Value.category, fi0, fi1, fi2, fi3] <;> first | rfl | exact ⟨rfl, rfl⟩)
theorem c_Mo_arranged {d : Nat} (hp : pre.length = 168) (hw : WT epsilonN epsilonD wishes wants wantN wantD actions needs needTime needOf needHow needN needD changes changeTime changeOf changeHow changeN changeD lastOf lastN lastD firstN firstD) (wT : ∀ s, 0 ≤ triedAction s ∧ triedAction s < 12) (wU : 0 ≤ tried ∧ tried ≤ 12) (hact : ∀ s, 0 ≤ s → s < tried → 0 ≤ triedAction s ∧ triedAction s < actions) (wV : 0 ≤ triedRows ∧ triedRows ≤ 24) (hrow : ∀ k, 0 ≤ k → k < triedRows → 0 ≤ triedRow k ∧ triedRow k < 2 * tried) (hfull : ∀ p, 0 ≤ p → p < 2 * tried → ∃ j, 0 ≤ j ∧ j < triedRows ∧ triedRow j = p) (hR : triedRows = 2 * tried) : ∃ (why pt : Int) (F1 : Int → Prop) (N1 D1 : Int → Int) (G1 : Int → Prop) (x1 y1 p1 : Int) (lN1 lD1 gN1 gD1 : Int → Int) (F2 : Int → Prop) (N2 D2 : Int → Int) (u1 : Int) (t1 : Int → Int), ArrR tried triedRows triedRow (fun S s t => fit needs needTime needOf needHow needN needD S.1 S.2.1 S.2.2 (triedAction s) t) (fun S p => chAll changeTime changeOf changeHow changeN changeD (tmo p) (changes (triedAction (p / 2))).toNat (6 * triedAction (p / 2)) S) (fun S s => (lbN lastOf lastN lastD epsilonN epsilonD S.2.1 S.2.2 (triedAction s), lbD lastOf lastN lastD epsilonN epsilonD S.2.1 S.2.2 (triedAction s), gbN lastOf lastN lastD S.2.1 S.2.2 (triedAction s), gbD lastOf lastN lastD S.2.1 S.2.2 (triedAction s))) (fun S => goal wishes wants wantN wantD S.1 S.2.1 S.2.2) (intP triedAction needs needTime needHow needOf lastOf changes changeTime changeHow changeOf) epsilonN epsilonD (firstFacts, firstN, firstD) why pt (F1, N1, D1) u1 t1 ∧ WN N1 D1 ∧ (0 ≤ why ∧ why ≤ 8) ∧ (1 ≤ why → why ≤ 5 → p1 = pt) ∧ (why = 0 → (0 < u1 ∧ u1 ≤ 100000) ∧ (∀ p, 0 ≤ p → p < 2 * tried → 0 ≤ t1 p ∧ t1 p ≤ 24000000000) ∧ ∀ s, 0 ≤ s → s < tried → t1 (2 * s) < t1 (2 * s + 1)) ∧ Cg false (d + 6) m_Mo_arranged [.ref 168] (MR pre code amountN amountD momentN momentD epsilonN epsilonD firstFacts firstN firstD wishes wants wantN wantD actions needs needTime needOf needHow needN needD changes changeTime changeOf changeHow changeN changeD lastOf lastN lastD steps stepAction startN startD lengthN lengthD rows row tried triedAction triedRows triedRow times unit facts numN numD oldFacts oldN oldD point judged fault faultPoint toldFacts toldN toldD outN outD pointN pointD gone now leastN leastD greatestN greatestD events post) (.inl (some (.int (iI why)))) (MR pre code amountN amountD momentN momentD epsilonN epsilonD firstFacts firstN firstD wishes wants wantN wantD actions needs needTime needOf needHow needN needD changes changeTime changeOf changeHow changeN changeD lastOf lastN lastD steps stepAction startN startD lengthN lengthD rows row tried triedAction triedRows triedRow t1 u1 F1 N1 D1 F2 N2 D2 p1 judged fault faultPoint toldFacts toldN toldD x1 y1 pointN pointD G1 now lN1 lD1 gN1 gD1 events post) := by
  obtain ⟨wE, -, -, -, -, -, -, -, -, -, -, -, -, -, -, -, -, -, -, -, -⟩ := id hw
  obtain ⟨why0, pt, F1, N1, D1, G1, x1, y1, p1, lN1, lD1, gN1, gD1, F2, N2, D2, B1, hW, wN1, hwy, hp1, hfin, hcw⟩ := c_Mo_walk (d := d) (pre := pre) (post := post) (code := code) (amountN := amountN) (amountD := amountD) (momentN := momentN) (momentD := momentD) (epsilonN := epsilonN) (epsilonD := epsilonD) (firstFacts := firstFacts) (firstN := firstN) (firstD := firstD) (wishes := wishes) (wants := wants) (wantN := wantN) (wantD := wantD) (actions := actions) (needs := needs) (needTime := needTime) (needOf := needOf) (needHow := needHow) (needN := needN) (needD := needD) (changes := changes) (changeTime := changeTime) (changeOf := changeOf) (changeHow := changeHow) (changeN := changeN) (changeD := changeD) (lastOf := lastOf) (lastN := lastN) (lastD := lastD) (steps := steps) (stepAction := stepAction) (startN := startN) (startD := startD) (lengthN := lengthN) (lengthD := lengthD) (rows := rows) (row := row) (tried := tried) (triedAction := triedAction) (triedRows := triedRows) (triedRow := triedRow) (times := times) (unit := unit) (facts := facts) (numN := numN) (numD := numD) (oldFacts := oldFacts) (oldN := oldN) (oldD := oldD) (point := point) (judged := judged) (fault := fault) (faultPoint := faultPoint) (toldFacts := toldFacts) (toldN := toldN) (toldD := toldD) (outN := outN) (outD := outD) (pointN := pointN) (pointD := pointD) (gone := gone) (now := now) (leastN := leastN) (leastD := leastD) (greatestN := greatestN) (greatestD := greatestD) (events := events) hp hw wU hact wV hrow (fun _ => (0, 0, 0, 0))
  by_cases h0 : why0 = 0
  · subst h0
    obtain ⟨hB, hG1⟩ := hfin rfl
    have hst : ∀ s, 0 ≤ s → s < tried → G1 (2 * s) := fun s z1 z2 => (hG1 (2 * s)).mpr (Or.inr (by
      obtain ⟨j, j1, j2, j3⟩ := hfull (2 * s) (by omega) (by omega)
      exact ⟨j, j1, j2, j3⟩))
    have hcg : ∀ s, 0 ≤ s → s < tried → lN1 s = (B1 s).1 ∧ lD1 s = (B1 s).2.1 ∧ gD1 s = (B1 s).2.2.2 ∧ (¬ (B1 s).2.2.2 = 0 → gN1 s = (B1 s).2.2.1) := fun s z1 z2 => by
      obtain ⟨y1, y2, y3, y4, -⟩ := hB s z1 (hst s z1 z2)
      exact ⟨y1, y2, y3, y4⟩
    have hb : WB tried lN1 lD1 gN1 gD1 := fun s z1 z2 => by
      obtain ⟨y1, y2, y3, y4, y5, y6, y7⟩ := hB s z1 (hst s z1 z2)
      rw [y1, y2, y3]
      exact ⟨y5, y6, fun z => by rw [y4 z]; exact y7 z⟩
    have eU := unitA_c (eN := epsilonN) (eD := epsilonD) wU.1 hcg
    obtain ⟨u1, hu1, hcu⟩ := c_Mo_hasUnit (d := d + 2) (pre := pre) (post := post) (code := code) (amountN := amountN) (amountD := amountD) (momentN := momentN) (momentD := momentD) (epsilonN := epsilonN) (epsilonD := epsilonD) (firstFacts := firstFacts) (firstN := firstN) (firstD := firstD) (wishes := wishes) (wants := wants) (wantN := wantN) (wantD := wantD) (actions := actions) (needs := needs) (needTime := needTime) (needOf := needOf) (needHow := needHow) (needN := needN) (needD := needD) (changes := changes) (changeTime := changeTime) (changeOf := changeOf) (changeHow := changeHow) (changeN := changeN) (changeD := changeD) (lastOf := lastOf) (lastN := lastN) (lastD := lastD) (steps := steps) (stepAction := stepAction) (startN := startN) (startD := startD) (lengthN := lengthN) (lengthD := lengthD) (rows := rows) (row := row) (tried := tried) (triedAction := triedAction) (triedRows := triedRows) (triedRow := triedRow) (times := times) (unit := unit) (facts := F1) (numN := N1) (numD := D1) (oldFacts := F2) (oldN := N2) (oldD := D2) (point := p1) (judged := judged) (fault := fault) (faultPoint := faultPoint) (toldFacts := toldFacts) (toldN := toldN) (toldD := toldD) (outN := x1) (outD := y1) (pointN := pointN) (pointD := pointD) (gone := G1) (now := now) (leastN := lN1) (leastD := lD1) (greatestN := gN1) (greatestD := gD1) (events := events) hp hw wU hb
    cases hj : unitA epsilonN epsilonD tried lN1 lD1 gN1 gD1 with
    | none =>
      refine ⟨8, pt, F1, N1, D1, G1, x1, y1, p1, lN1, lD1, gN1, gD1, F2, N2, D2, u1, times, ⟨0, B1, hW, Or.inr ⟨rfl, Or.inl ⟨by rw [← eU]; exact hj, rfl⟩⟩⟩, wN1, by omega, fun _ z => absurd z (by omega), fun z => absurd z (by omega), ?_⟩
      have hN : ¬ ∃ v, unitA epsilonN epsilonD tried lN1 lD1 gN1 gD1 = some v := by
        rintro ⟨v, hv⟩
        rw [hj] at hv
        cases hv
      refine Cg.of (Nat.le_of_ble_eq_true rfl) ?_
      change Rg _ _ _ _ 0 [(0, .ref 168)] [] _ _ _
      refine Rg.step 1 F_Mo_arranged_0 rfl (fun _ => rfl) ?_
      refine Rg.call 4 F_Mo_arranged_1 rfl (one_V rM_26_376 (by decide) (by simp) rfl rfl (gM hp) rfl) (Nat.le_of_ble_eq_true rfl) hcw ?_
      refine Rg.step 5 F_Mo_arranged_4 rfl (fun _ => rfl) ?_
      refine Rg.step 6 F_Mo_arranged_5 rfl (fun _ => rfl) ?_
      refine Rg.ifleI 11 9 F_Mo_arranged_6 rfl rfl (by omega) (fun _ => ?_) (fun h6 => by omega)
      refine Rg.step 12 F_Mo_arranged_11 rfl (fun _ => rfl) ?_
      refine Rg.call 15 F_Mo_arranged_12 rfl (one_V rM_26_379 (by decide) (by simp) rfl rfl (gM hp) rfl) (Nat.le_of_ble_eq_true rfl) hcu ?_
      refine Rg.ifneP 21 18 F_Mo_arranged_15 rfl rfl (fun h15 => absurd h15 hN) (fun _ => ?_)
      refine Rg.bip 20 F_Mo_arranged_18 rfl rfl ?_
      exact Rg.retI F_Mo_arranged_20 rfl rfl rfl
    | some u0 =>
      have e1 : u1 = u0 := hu1 u0 hj
      subst e1
      have hY : ∃ v, unitA epsilonN epsilonD tried lN1 lD1 gN1 gD1 = some v := ⟨u1, hj⟩
      have hj0 := hj
      unfold unitA at hj0
      cases hj1 : joinF 1 epsilonN epsilonD with
      | none => rw [hj1] at hj0; cases hj0
      | some ue =>
        rw [hj1, Option.bind_some] at hj0
        obtain ⟨je1, je2, je3, je4⟩ := joinF_some (u := 1) (by omega) wE.2.2.1 hj1
        obtain ⟨hu, ju2, ju3⟩ := unitF_some hb tried.toNat 0 ue u1 (by omega) (by omega) je1 hj0
        have hE := unit_bd (n := epsilonN) (d := epsilonD) (by omega) je2 wE.2.2.1 hu
        have hL : ∀ s, 0 ≤ s → s < tried → (0 ≤ lN1 s * (u1 / lD1 s) ∧ lN1 s * (u1 / lD1 s) ≤ 1000000000) ∧ 0 < lD1 s ∧ lD1 s < 9223372036854775808 := fun s z1 z2 => by
          have y1 := hb s z1 z2
          exact ⟨unit_bd (by omega) (ju3 s z1 z2).1.1 (by omega) hu, by omega, by omega⟩
        have hnr : ∀ s, 0 ≤ s → s < tried → ¬ gD1 s = 0 → nrm gN1 s = gN1 s := fun s z1 z2 z3 => nrm_in (by have := (hb s z1 z2).2.2 z3; omega)
        have hG : ∀ s, 0 ≤ s → s < tried → (0 ≤ gD1 s ∧ gD1 s < 9223372036854775808) ∧ (-9223372036854775808 ≤ nrm gN1 s ∧ nrm gN1 s < 9223372036854775808) ∧ (¬ gD1 s = 0 → 0 ≤ nrm gN1 s → 0 ≤ nrm gN1 s * (u1 / gD1 s) ∧ nrm gN1 s * (u1 / gD1 s) ≤ 1000000000) := fun s z1 z2 => by
          have y1 := hb s z1 z2
          refine ⟨by omega, nrm_b _, fun z3 z4 => ?_⟩
          rw [hnr s z1 z2 z3] at z4 ⊢
          exact unit_bd z4 ((ju3 s z1 z2).2 z3).1 (by omega) hu
        have hcg2 : ∀ s, 0 ≤ s → s < tried → lN1 s = (B1 s).1 ∧ lD1 s = (B1 s).2.1 ∧ gD1 s = (B1 s).2.2.2 ∧ (¬ (B1 s).2.2.2 = 0 → nrm gN1 s = (B1 s).2.2.1) := fun s z1 z2 => by
          obtain ⟨y1, y2, y3, y4⟩ := hcg s z1 z2
          exact ⟨y1, y2, y3, fun z => by rw [hnr s z1 z2 (by rw [y3]; exact z)]; exact y4 z⟩
        obtain ⟨V, t1, hE1, ht⟩ := arr_rounds (d := d) (n0 := (MR pre code amountN amountD momentN momentD epsilonN epsilonD firstFacts firstN firstD wishes wants wantN wantD actions needs needTime needOf needHow needN needD changes changeTime changeOf changeHow changeN changeD lastOf lastN lastD steps stepAction startN startD lengthN lengthD rows row tried triedAction triedRows triedRow times unit facts numN numD oldFacts oldN oldD point judged fault faultPoint toldFacts toldN toldD outN outD pointN pointD gone now leastN leastD greatestN greatestD events post).length) (pre := pre) (post := post) (code := code) (amountN := amountN) (amountD := amountD) (momentN := momentN) (momentD := momentD) (epsilonN := epsilonN) (epsilonD := epsilonD) (firstFacts := firstFacts) (firstN := firstN) (firstD := firstD) (wishes := wishes) (wants := wants) (wantN := wantN) (wantD := wantD) (actions := actions) (needs := needs) (needTime := needTime) (needOf := needOf) (needHow := needHow) (needN := needN) (needD := needD) (changes := changes) (changeTime := changeTime) (changeOf := changeOf) (changeHow := changeHow) (changeN := changeN) (changeD := changeD) (lastOf := lastOf) (lastN := lastN) (lastD := lastD) (steps := steps) (stepAction := stepAction) (startN := startN) (startD := startD) (lengthN := lengthN) (lengthD := lengthD) (rows := rows) (row := row) (tried := tried) (triedAction := triedAction) (triedRows := triedRows) (triedRow := triedRow) (unit := u1) (facts := F1) (numN := N1) (numD := D1) (oldFacts := F2) (oldN := N2) (oldD := D2) (point := p1) (judged := judged) (fault := fault) (faultPoint := faultPoint) (toldFacts := toldFacts) (toldN := toldN) (toldD := toldD) (outN := x1) (outD := y1) (pointN := pointN) (pointD := pointD) (gone := G1) (now := now) (leastN := lN1) (leastD := lD1) (greatestN := (nrm gN1)) (greatestD := gD1) (events := events) hp hw wT wU wV hrow hu hE hL hG hR (w0 := .int (iI 0)) (triedRows + 1).toNat 0 (fun _ => (0 : Int)) (by omega) (by omega) (fun p => by omega) (fun u z => z.1) (fun u z => Nat.zero_le _)
        have hSC := fun v => SolB_c (R := triedRows) (row := triedRow) (I := (intP triedAction needs needTime needHow needOf lastOf changes changeTime changeHow changeOf)) (eN := epsilonN) (eD := epsilonD) (u := u1) hcg2 (t := v)
        rcases hE1 with ⟨v1, v2⟩ | ⟨v1, v2, v3⟩
        · subst v1
          refine ⟨7, pt, F1, N1, D1, G1, x1, y1, p1, lN1, lD1, nrm gN1, gD1, F2, N2, D2, u1, t1, ⟨0, B1, hW, Or.inr ⟨rfl, Or.inr ⟨u1, by rw [← eU]; exact hj, Or.inl ⟨rfl, fun ⟨v, hv⟩ => v2 ⟨v, (hSC v).mpr hv⟩⟩⟩⟩⟩, wN1, by omega, fun _ z => absurd z (by omega), fun z => absurd z (by omega), ?_⟩
          refine Cg.of (Nat.le_of_ble_eq_true rfl) ?_
          change Rg _ _ _ _ 0 [(0, .ref 168)] [] _ _ _
          refine Rg.step 1 F_Mo_arranged_0 rfl (fun _ => rfl) ?_
          refine Rg.call 4 F_Mo_arranged_1 rfl (one_V rM_26_376 (by decide) (by simp) rfl rfl (gM hp) rfl) (Nat.le_of_ble_eq_true rfl) hcw ?_
          refine Rg.step 5 F_Mo_arranged_4 rfl (fun _ => rfl) ?_
          refine Rg.step 6 F_Mo_arranged_5 rfl (fun _ => rfl) ?_
          refine Rg.ifleI 11 9 F_Mo_arranged_6 rfl rfl (by omega) (fun _ => ?_) (fun h6 => by omega)
          refine Rg.step 12 F_Mo_arranged_11 rfl (fun _ => rfl) ?_
          refine Rg.call 15 F_Mo_arranged_12 rfl (one_V rM_26_379 (by decide) (by simp) rfl rfl (gM hp) rfl) (Nat.le_of_ble_eq_true rfl) hcu ?_
          refine Rg.ifneP 21 18 F_Mo_arranged_15 rfl rfl (fun _ => ?_) (fun h15 => absurd hY h15)
          refine Rg.step 22 F_Mo_arranged_21 rfl (fun _ => rfl) ?_
          refine Rg.step 23 F_Mo_arranged_22 rfl (fun _ => rfl) ?_
          refine Rg.frM (kR_times (mix0_L (fun _ => (0 : Int)) times)) (Rg.weak (tms_zero hp ?_ 24 0 (by omega) (by omega)) (by simp [lput1, lput2, Value.category, fi0, fi1, fi2, fi3] <;> first | rfl | exact ⟨rfl, rfl⟩) (by simp [lput1, lput2, Value.category, fi0, fi1, fi2, fi3] <;> first | rfl | exact ⟨rfl, rfl⟩))
          refine Rg.frM (kR_times (mix_L (fun _ => (0 : Int)) times)) ?_
          refine Rg.frM (kR_greatestN (nrm_aL 12 gN1).symm) ?_
          refine Rg.step 43 F_Mo_arranged_42 rfl (fun _ => rfl) ?_
          refine Rg.step 44 F_Mo_arranged_43 rfl (fun _ => rfl) ?_
          refine Rg.cP1 (B := True) 45 F_Mo_arranged_44 rfl trivial ?_
          refine Rg.step 46 F_Mo_arranged_45 rfl (fun _ => rfl) ?_
          exact Rg.weak ht (by simp [lput1, lput2, Value.category, fi0, fi1, fi2, fi3] <;> first | rfl | exact ⟨rfl, rfl⟩) (by simp [lput1, lput2, Value.category, fi0, fi1, fi2, fi3] <;> first | rfl | exact ⟨rfl, rfl⟩)
        · subst v1
          have hbt := sol_bd (n := (2 * tried).toNat) (W := 1000000000) (by omega) hrow (by omega) hE (fun s z1 z2 => (hL s z1 z2).1.2) (fun s z1 z2 z3 => by
            have y1 := (hG s z1 z2).2.2 z3
            try dsimp only
            split <;> omega) v2 (fun u z p _ _ => v3 u z p)
          refine ⟨0, pt, F1, N1, D1, G1, x1, y1, p1, lN1, lD1, nrm gN1, gD1, F2, N2, D2, u1, t1, ⟨0, B1, hW, Or.inr ⟨rfl, Or.inr ⟨u1, by rw [← eU]; exact hj, Or.inr ⟨rfl, rfl, (hSC t1).mp v2, fun v hv p _ _ => v3 v ((hSC v).mpr hv) p⟩⟩⟩⟩, wN1, by omega, fun z => absurd z (by omega), fun _ => ⟨hu, fun p z1 z2 => ⟨v2.1 p, by have := hbt p z1 z2; omega⟩, fun s z1 z2 => ?_⟩, ?_⟩
          · have y1 := v2.2.2.1 s z1 z2
            have y2 := hb s z1 z2
            have y3 : 0 < u1 / lD1 s := Int.ediv_pos_of_pos_of_dvd hu.1 (by omega) (ju3 s z1 z2).1.2
            have y4 := Int.mul_pos y2.1.1 y3
            try dsimp only at y1
            omega
          · skip
            refine Cg.of (Nat.le_of_ble_eq_true rfl) ?_
            change Rg _ _ _ _ 0 [(0, .ref 168)] [] _ _ _
            refine Rg.step 1 F_Mo_arranged_0 rfl (fun _ => rfl) ?_
            refine Rg.call 4 F_Mo_arranged_1 rfl (one_V rM_26_376 (by decide) (by simp) rfl rfl (gM hp) rfl) (Nat.le_of_ble_eq_true rfl) hcw ?_
            refine Rg.step 5 F_Mo_arranged_4 rfl (fun _ => rfl) ?_
            refine Rg.step 6 F_Mo_arranged_5 rfl (fun _ => rfl) ?_
            refine Rg.ifleI 11 9 F_Mo_arranged_6 rfl rfl (by omega) (fun _ => ?_) (fun h6 => by omega)
            refine Rg.step 12 F_Mo_arranged_11 rfl (fun _ => rfl) ?_
            refine Rg.call 15 F_Mo_arranged_12 rfl (one_V rM_26_379 (by decide) (by simp) rfl rfl (gM hp) rfl) (Nat.le_of_ble_eq_true rfl) hcu ?_
            refine Rg.ifneP 21 18 F_Mo_arranged_15 rfl rfl (fun _ => ?_) (fun h15 => absurd hY h15)
            refine Rg.step 22 F_Mo_arranged_21 rfl (fun _ => rfl) ?_
            refine Rg.step 23 F_Mo_arranged_22 rfl (fun _ => rfl) ?_
            refine Rg.frM (kR_times (mix0_L (fun _ => (0 : Int)) times)) (Rg.weak (tms_zero hp ?_ 24 0 (by omega) (by omega)) (by simp [lput1, lput2, Value.category, fi0, fi1, fi2, fi3] <;> first | rfl | exact ⟨rfl, rfl⟩) (by simp [lput1, lput2, Value.category, fi0, fi1, fi2, fi3] <;> first | rfl | exact ⟨rfl, rfl⟩))
            refine Rg.frM (kR_times (mix_L (fun _ => (0 : Int)) times)) ?_
            refine Rg.frM (kR_greatestN (nrm_aL 12 gN1).symm) ?_
            refine Rg.step 43 F_Mo_arranged_42 rfl (fun _ => rfl) ?_
            refine Rg.step 44 F_Mo_arranged_43 rfl (fun _ => rfl) ?_
            refine Rg.cP1 (B := True) 45 F_Mo_arranged_44 rfl trivial ?_
            refine Rg.step 46 F_Mo_arranged_45 rfl (fun _ => rfl) ?_
            exact Rg.weak ht (by simp [lput1, lput2, Value.category, fi0, fi1, fi2, fi3] <;> first | rfl | exact ⟨rfl, rfl⟩) (by simp [lput1, lput2, Value.category, fi0, fi1, fi2, fi3] <;> first | rfl | exact ⟨rfl, rfl⟩)
  · refine ⟨why0, pt, F1, N1, D1, G1, x1, y1, p1, lN1, lD1, gN1, gD1, F2, N2, D2, unit, times, ⟨why0, B1, hW, Or.inl ⟨by omega, rfl⟩⟩, wN1, by omega, hp1, fun z => absurd z h0, ?_⟩
    refine Cg.of (Nat.le_of_ble_eq_true rfl) ?_
    change Rg _ _ _ _ 0 [(0, .ref 168)] [] _ _ _
    refine Rg.step 1 F_Mo_arranged_0 rfl (fun _ => rfl) ?_
    refine Rg.call 4 F_Mo_arranged_1 rfl (one_V rM_26_376 (by decide) (by simp) rfl rfl (gM hp) rfl) (Nat.le_of_ble_eq_true rfl) hcw ?_
    refine Rg.step 5 F_Mo_arranged_4 rfl (fun _ => rfl) ?_
    refine Rg.step 6 F_Mo_arranged_5 rfl (fun _ => rfl) ?_
    refine Rg.ifleI 11 9 F_Mo_arranged_6 rfl rfl (by omega) (fun h6 => by omega) (fun _ => ?_)
    refine Rg.step 10 F_Mo_arranged_9 rfl (fun _ => rfl) ?_
    exact Rg.retI F_Mo_arranged_10 rfl rfl rfl
theorem tt_l2 {d n0 : Nat} (hp : pre.length = 168) (wU : 0 ≤ steps ∧ steps ≤ 12) (hs : steps = tried) (hu : 0 < unit ∧ unit ≤ 100000) (hbt : ∀ p, 0 ≤ p → p < 2 * tried → 0 ≤ times p ∧ times p ≤ 24000000000) : ∀ (n : Nat) (k x y : Int), k + n = steps → 0 ≤ k → ∃ x1 y1, Rg false (d + 3) m_Mo_takeTried n0 46 [(1, .int (iI k)), (0, .ref 168)] [] (MR pre code amountN amountD momentN momentD epsilonN epsilonD firstFacts firstN firstD wishes wants wantN wantD actions needs needTime needOf needHow needN needD changes changeTime changeOf changeHow changeN changeD lastOf lastN lastD steps (mix k triedAction stepAction) (mix k (fun s => nN (times (2 * s)) unit) startN) (mix k (fun s => nD (times (2 * s)) unit) startD) (mix k (fun s => nN (times (2 * s + 1) - times (2 * s)) unit) lengthN) (mix k (fun s => nD (times (2 * s + 1) - times (2 * s)) unit) lengthD) rows row tried triedAction triedRows triedRow times unit facts numN numD oldFacts oldN oldD point judged fault faultPoint toldFacts toldN toldD x y pointN pointD gone now leastN leastD greatestN greatestD events post) (.inl none) (MR pre code amountN amountD momentN momentD epsilonN epsilonD firstFacts firstN firstD wishes wants wantN wantD actions needs needTime needOf needHow needN needD changes changeTime changeOf changeHow changeN changeD lastOf lastN lastD steps (mix steps triedAction stepAction) (mix steps (fun s => nN (times (2 * s)) unit) startN) (mix steps (fun s => nD (times (2 * s)) unit) startD) (mix steps (fun s => nN (times (2 * s + 1) - times (2 * s)) unit) lengthN) (mix steps (fun s => nD (times (2 * s + 1) - times (2 * s)) unit) lengthD) rows row tried triedAction triedRows triedRow times unit facts numN numD oldFacts oldN oldD point judged fault faultPoint toldFacts toldN toldD x1 y1 pointN pointD gone now leastN leastD greatestN greatestD events post) := by
  intro n
  induction n with
  | zero =>
    intro k x y hk hk2
    have hk : k = steps := by omega
    subst hk
    refine ⟨x, y, ?_⟩
    refine Rg.step 47 F_Mo_takeTried_46 rfl (fun _ => rfl) ?_
    refine Rg.step 48 F_Mo_takeTried_47 rfl (fun _ => rfl) ?_
    refine Rg.getf 51 F_Mo_takeTried_48 rfl rF_26_242 (gM hp) rfl ?_
    refine Rg.icgeI 155 54 F_Mo_takeTried_51 rfl rfl (by omega) (by omega) (fun _ => ?_) (fun h51 => by omega)
    exact Rg.retV F_Mo_takeTried_155 rfl rfl
  | succ n ih =>
    intro k x y hk hk2
    have t1 := hbt (2 * k) (by omega) (by omega)
    have t2 := hbt (2 * k + 1) (by omega) (by omega)
    obtain ⟨x1, y1, hg⟩ := ih (k + 1) (nN (times (2 * k + 1) - times (2 * k)) unit) (nD (times (2 * k + 1) - times (2 * k)) unit) (by omega) (by omega)
    refine ⟨x1, y1, ?_⟩
    refine Rg.step 47 F_Mo_takeTried_46 rfl (fun _ => rfl) ?_
    refine Rg.step 48 F_Mo_takeTried_47 rfl (fun _ => rfl) ?_
    refine Rg.getf 51 F_Mo_takeTried_48 rfl rF_26_242 (gM hp) rfl ?_
    refine Rg.icgeI 155 54 F_Mo_takeTried_51 rfl rfl (by omega) (by omega) (fun h51 => by omega) (fun _ => ?_)
    refine Rg.step 55 F_Mo_takeTried_54 rfl (fun _ => rfl) ?_
    refine Rg.getf 58 F_Mo_takeTried_55 rfl rF_26_93 (gM hp) rfl ?_
    refine Rg.step 59 F_Mo_takeTried_58 rfl (fun _ => rfl) ?_
    refine Rg.step 60 F_Mo_takeTried_59 rfl (fun _ => rfl) ?_
    refine Rg.getf 63 F_Mo_takeTried_60 rfl rF_26_111 (gM hp) rfl ?_
    refine Rg.step 64 F_Mo_takeTried_63 rfl (fun _ => rfl) ?_
    refine Rg.ild 65 F_Mo_takeTried_64 rfl (gR_triedAction hp) (by omega) (by decide) ?_
    refine Rg.ist 66 F_Mo_takeTried_65 rfl (gR_stepAction hp) (by decide) (sR_stepAction hp) (by omega) (by decide) ?_
    rw [mix_up (f := triedAction)]
    refine Rg.step 67 F_Mo_takeTried_66 rfl (fun _ => rfl) ?_
    refine Rg.step 68 F_Mo_takeTried_67 rfl (fun _ => rfl) ?_
    refine Rg.getf 71 F_Mo_takeTried_68 rfl rF_26_117 (gM hp) rfl ?_
    refine Rg.step 72 F_Mo_takeTried_71 rfl (fun _ => rfl) ?_
    refine Rg.step 73 F_Mo_takeTried_72 rfl (fun _ => rfl) ?_
    refine Rg.mulI 74 F_Mo_takeTried_73 rfl ?_
    refine Rg.lld 75 F_Mo_takeTried_74 rfl (gR_times hp) (by omega) (by decide) ?_
    refine Rg.step 76 F_Mo_takeTried_75 rfl (fun _ => rfl) ?_
    refine Rg.getf 79 F_Mo_takeTried_76 rfl rF_26_358 (gM hp) rfl ?_
    refine Rg.call 82 F_Mo_takeTried_79 rfl (one_V rM_26_208 (by decide) (by simp) rfl rfl (gM hp) rfl) (Nat.le_of_ble_eq_true rfl) (c_Mo_out hp (by omega) (by omega) (by omega)) ?_
    refine Rg.step 83 F_Mo_takeTried_82 rfl (fun _ => rfl) ?_
    refine Rg.getf 86 F_Mo_takeTried_83 rfl rF_26_96 (gM hp) rfl ?_
    refine Rg.step 87 F_Mo_takeTried_86 rfl (fun _ => rfl) ?_
    refine Rg.step 88 F_Mo_takeTried_87 rfl (fun _ => rfl) ?_
    refine Rg.getf 91 F_Mo_takeTried_88 rfl rF_26_189 (gM hp) rfl ?_
    refine Rg.lst 92 F_Mo_takeTried_91 rfl (gR_startN hp) (by decide) (sR_startN hp) (by omega) (by decide) ?_
    rw [mix_up (f := (fun s => nN (times (2 * s)) unit))]
    refine Rg.step 93 F_Mo_takeTried_92 rfl (fun _ => rfl) ?_
    refine Rg.getf 96 F_Mo_takeTried_93 rfl rF_26_99 (gM hp) rfl ?_
    refine Rg.step 97 F_Mo_takeTried_96 rfl (fun _ => rfl) ?_
    refine Rg.step 98 F_Mo_takeTried_97 rfl (fun _ => rfl) ?_
    refine Rg.getf 101 F_Mo_takeTried_98 rfl rF_26_192 (gM hp) rfl ?_
    refine Rg.lst 102 F_Mo_takeTried_101 rfl (gR_startD hp) (by decide) (sR_startD hp) (by omega) (by decide) ?_
    rw [mix_up (f := (fun s => nD (times (2 * s)) unit))]
    refine Rg.step 103 F_Mo_takeTried_102 rfl (fun _ => rfl) ?_
    refine Rg.step 104 F_Mo_takeTried_103 rfl (fun _ => rfl) ?_
    refine Rg.getf 107 F_Mo_takeTried_104 rfl rF_26_117 (gM hp) rfl ?_
    refine Rg.step 108 F_Mo_takeTried_107 rfl (fun _ => rfl) ?_
    refine Rg.step 109 F_Mo_takeTried_108 rfl (fun _ => rfl) ?_
    refine Rg.mulI 110 F_Mo_takeTried_109 rfl ?_
    refine Rg.step 111 F_Mo_takeTried_110 rfl (fun _ => rfl) ?_
    refine Rg.addI 112 F_Mo_takeTried_111 rfl ?_
    refine Rg.lld 113 F_Mo_takeTried_112 rfl (gR_times hp) (by omega) (by decide) ?_
    refine Rg.step 114 F_Mo_takeTried_113 rfl (fun _ => rfl) ?_
    refine Rg.getf 117 F_Mo_takeTried_114 rfl rF_26_117 (gM hp) rfl ?_
    refine Rg.step 118 F_Mo_takeTried_117 rfl (fun _ => rfl) ?_
    refine Rg.step 119 F_Mo_takeTried_118 rfl (fun _ => rfl) ?_
    refine Rg.mulI 120 F_Mo_takeTried_119 rfl ?_
    refine Rg.lld 121 F_Mo_takeTried_120 rfl (gR_times hp) (by omega) (by decide) ?_
    refine Rg.subL 122 F_Mo_takeTried_121 rfl ?_
    refine Rg.step 123 F_Mo_takeTried_122 rfl (fun _ => rfl) ?_
    refine Rg.getf 126 F_Mo_takeTried_123 rfl rF_26_358 (gM hp) rfl ?_
    refine Rg.call 129 F_Mo_takeTried_126 rfl (one_V rM_26_208 (by decide) (by simp) rfl rfl (gM hp) rfl) (Nat.le_of_ble_eq_true rfl) (c_Mo_out hp (by omega) (by omega) (by omega)) ?_
    refine Rg.step 130 F_Mo_takeTried_129 rfl (fun _ => rfl) ?_
    refine Rg.getf 133 F_Mo_takeTried_130 rfl rF_26_102 (gM hp) rfl ?_
    refine Rg.step 134 F_Mo_takeTried_133 rfl (fun _ => rfl) ?_
    refine Rg.step 135 F_Mo_takeTried_134 rfl (fun _ => rfl) ?_
    refine Rg.getf 138 F_Mo_takeTried_135 rfl rF_26_189 (gM hp) rfl ?_
    refine Rg.lst 139 F_Mo_takeTried_138 rfl (gR_lengthN hp) (by decide) (sR_lengthN hp) (by omega) (by decide) ?_
    rw [mix_up (f := (fun s => nN (times (2 * s + 1) - times (2 * s)) unit))]
    refine Rg.step 140 F_Mo_takeTried_139 rfl (fun _ => rfl) ?_
    refine Rg.getf 143 F_Mo_takeTried_140 rfl rF_26_105 (gM hp) rfl ?_
    refine Rg.step 144 F_Mo_takeTried_143 rfl (fun _ => rfl) ?_
    refine Rg.step 145 F_Mo_takeTried_144 rfl (fun _ => rfl) ?_
    refine Rg.getf 148 F_Mo_takeTried_145 rfl rF_26_192 (gM hp) rfl ?_
    refine Rg.lst 149 F_Mo_takeTried_148 rfl (gR_lengthD hp) (by decide) (sR_lengthD hp) (by omega) (by decide) ?_
    rw [mix_up (f := (fun s => nD (times (2 * s + 1) - times (2 * s)) unit))]
    refine Rg.inc 152 F_Mo_takeTried_149 rfl rfl (by decide) ?_
    refine Rg.step 46 F_Mo_takeTried_152 rfl (fun _ => rfl) ?_
    exact Rg.weak hg (by simp [lput1, lput2, Value.category, fi0, fi1, fi2, fi3] <;> first | rfl | exact ⟨rfl, rfl⟩) (by simp [lput1, lput2, Value.category, fi0, fi1, fi2, fi3] <;> first | rfl | exact ⟨rfl, rfl⟩)
theorem tt_l1 {d n0 : Nat} (hp : pre.length = 168) (wV : 0 ≤ rows ∧ rows ≤ 24) {o : Option Value ⊕ Nat} {mem1 : AM} (hg : Rg false d m_Mo_takeTried n0 44 [(0, .ref 168)] [] (MR pre code amountN amountD momentN momentD epsilonN epsilonD firstFacts firstN firstD wishes wants wantN wantD actions needs needTime needOf needHow needN needD changes changeTime changeOf changeHow changeN changeD lastOf lastN lastD steps stepAction startN startD lengthN lengthD rows (mix rows triedRow row) tried triedAction triedRows triedRow times unit facts numN numD oldFacts oldN oldD point judged fault faultPoint toldFacts toldN toldD outN outD pointN pointD gone now leastN leastD greatestN greatestD events post) o mem1) : ∀ (n : Nat) (k : Int), k + n = rows → 0 ≤ k → Rg false d m_Mo_takeTried n0 18 [(1, .int (iI k)), (0, .ref 168)] [] (MR pre code amountN amountD momentN momentD epsilonN epsilonD firstFacts firstN firstD wishes wants wantN wantD actions needs needTime needOf needHow needN needD changes changeTime changeOf changeHow changeN changeD lastOf lastN lastD steps stepAction startN startD lengthN lengthD rows (mix k triedRow row) tried triedAction triedRows triedRow times unit facts numN numD oldFacts oldN oldD point judged fault faultPoint toldFacts toldN toldD outN outD pointN pointD gone now leastN leastD greatestN greatestD events post) o mem1 := by
  intro n
  induction n with
  | zero =>
    intro k hk hk2
    have hk : k = rows := by omega
    subst hk
    refine Rg.step 19 F_Mo_takeTried_18 rfl (fun _ => rfl) ?_
    refine Rg.step 20 F_Mo_takeTried_19 rfl (fun _ => rfl) ?_
    refine Rg.getf 23 F_Mo_takeTried_20 rfl rF_26_245 (gM hp) rfl ?_
    refine Rg.icgeI 44 26 F_Mo_takeTried_23 rfl rfl (by omega) (by omega) (fun _ => ?_) (fun h23 => by omega)
    exact Rg.weak hg (by simp [lput1, lput2, Value.category, fi0, fi1, fi2, fi3] <;> first | rfl | exact ⟨rfl, rfl⟩) (by simp [lput1, lput2, Value.category, fi0, fi1, fi2, fi3] <;> first | rfl | exact ⟨rfl, rfl⟩)
  | succ n ih =>
    intro k hk hk2
    refine Rg.step 19 F_Mo_takeTried_18 rfl (fun _ => rfl) ?_
    refine Rg.step 20 F_Mo_takeTried_19 rfl (fun _ => rfl) ?_
    refine Rg.getf 23 F_Mo_takeTried_20 rfl rF_26_245 (gM hp) rfl ?_
    refine Rg.icgeI 44 26 F_Mo_takeTried_23 rfl rfl (by omega) (by omega) (fun h23 => by omega) (fun _ => ?_)
    refine Rg.step 27 F_Mo_takeTried_26 rfl (fun _ => rfl) ?_
    refine Rg.getf 30 F_Mo_takeTried_27 rfl rF_26_108 (gM hp) rfl ?_
    refine Rg.step 31 F_Mo_takeTried_30 rfl (fun _ => rfl) ?_
    refine Rg.step 32 F_Mo_takeTried_31 rfl (fun _ => rfl) ?_
    refine Rg.getf 35 F_Mo_takeTried_32 rfl rF_26_114 (gM hp) rfl ?_
    refine Rg.step 36 F_Mo_takeTried_35 rfl (fun _ => rfl) ?_
    refine Rg.ild 37 F_Mo_takeTried_36 rfl (gR_triedRow hp) (by omega) (by decide) ?_
    refine Rg.ist 38 F_Mo_takeTried_37 rfl (gR_row hp) (by decide) (sR_row hp) (by omega) (by decide) ?_
    refine Rg.inc 41 F_Mo_takeTried_38 rfl rfl (by decide) ?_
    refine Rg.step 18 F_Mo_takeTried_41 rfl (fun _ => rfl) ?_
    rw [mix_up]
    exact Rg.weak (ih (k + 1) (by omega) (by omega)) (by simp [lput1, lput2, Value.category, fi0, fi1, fi2, fi3] <;> first | rfl | exact ⟨rfl, rfl⟩) (by simp [lput1, lput2, Value.category, fi0, fi1, fi2, fi3] <;> first | rfl | exact ⟨rfl, rfl⟩)
theorem c_Mo_takeTried {d : Nat} (hp : pre.length = 168) (wU : 0 ≤ tried ∧ tried ≤ 12) (wV : 0 ≤ triedRows ∧ triedRows ≤ 24) (hu : 0 < unit ∧ unit ≤ 100000) (hbt : ∀ p, 0 ≤ p → p < 2 * tried → 0 ≤ times p ∧ times p ≤ 24000000000) : ∃ x1 y1, Cg false (d + 3) m_Mo_takeTried [.ref 168] (MR pre code amountN amountD momentN momentD epsilonN epsilonD firstFacts firstN firstD wishes wants wantN wantD actions needs needTime needOf needHow needN needD changes changeTime changeOf changeHow changeN changeD lastOf lastN lastD steps stepAction startN startD lengthN lengthD rows row tried triedAction triedRows triedRow times unit facts numN numD oldFacts oldN oldD point judged fault faultPoint toldFacts toldN toldD outN outD pointN pointD gone now leastN leastD greatestN greatestD events post) (.inl none) (MR pre code amountN amountD momentN momentD epsilonN epsilonD firstFacts firstN firstD wishes wants wantN wantD actions needs needTime needOf needHow needN needD changes changeTime changeOf changeHow changeN changeD lastOf lastN lastD tried (mix tried triedAction stepAction) (mix tried (fun s => nN (times (2 * s)) unit) startN) (mix tried (fun s => nD (times (2 * s)) unit) startD) (mix tried (fun s => nN (times (2 * s + 1) - times (2 * s)) unit) lengthN) (mix tried (fun s => nD (times (2 * s + 1) - times (2 * s)) unit) lengthD) triedRows (mix triedRows triedRow row) tried triedAction triedRows triedRow times unit facts numN numD oldFacts oldN oldD point judged fault faultPoint toldFacts toldN toldD x1 y1 pointN pointD gone now leastN leastD greatestN greatestD events post) := by
  obtain ⟨x1, y1, hg⟩ := tt_l2 (d := d) (n0 := (MR pre code amountN amountD momentN momentD epsilonN epsilonD firstFacts firstN firstD wishes wants wantN wantD actions needs needTime needOf needHow needN needD changes changeTime changeOf changeHow changeN changeD lastOf lastN lastD steps stepAction startN startD lengthN lengthD rows row tried triedAction triedRows triedRow times unit facts numN numD oldFacts oldN oldD point judged fault faultPoint toldFacts toldN toldD outN outD pointN pointD gone now leastN leastD greatestN greatestD events post).length) (pre := pre) (post := post) (code := code) (amountN := amountN) (amountD := amountD) (momentN := momentN) (momentD := momentD) (epsilonN := epsilonN) (epsilonD := epsilonD) (firstFacts := firstFacts) (firstN := firstN) (firstD := firstD) (wishes := wishes) (wants := wants) (wantN := wantN) (wantD := wantD) (actions := actions) (needs := needs) (needTime := needTime) (needOf := needOf) (needHow := needHow) (needN := needN) (needD := needD) (changes := changes) (changeTime := changeTime) (changeOf := changeOf) (changeHow := changeHow) (changeN := changeN) (changeD := changeD) (lastOf := lastOf) (lastN := lastN) (lastD := lastD) (steps := tried) (stepAction := stepAction) (startN := startN) (startD := startD) (lengthN := lengthN) (lengthD := lengthD) (rows := triedRows) (row := (mix triedRows triedRow row)) (tried := tried) (triedAction := triedAction) (triedRows := triedRows) (triedRow := triedRow) (times := times) (unit := unit) (facts := facts) (numN := numN) (numD := numD) (oldFacts := oldFacts) (oldN := oldN) (oldD := oldD) (point := point) (judged := judged) (fault := fault) (faultPoint := faultPoint) (toldFacts := toldFacts) (toldN := toldN) (toldD := toldD) (pointN := pointN) (pointD := pointD) (gone := gone) (now := now) (leastN := leastN) (leastD := leastD) (greatestN := greatestN) (greatestD := greatestD) (events := events) hp wU rfl hu hbt tried.toNat 0 outN outD (by omega) (by omega)
  refine ⟨x1, y1, ?_⟩
  refine Cg.of (Nat.le_of_ble_eq_true rfl) ?_
  change Rg _ _ _ _ 0 [(0, .ref 168)] [] _ _ _
  refine Rg.step 1 F_Mo_takeTried_0 rfl (fun _ => rfl) ?_
  refine Rg.step 2 F_Mo_takeTried_1 rfl (fun _ => rfl) ?_
  refine Rg.getf 5 F_Mo_takeTried_2 rfl rF_26_280 (gM hp) rfl ?_
  refine Rg.put 8 F_Mo_takeTried_5 rfl rF_26_242 (gM hp) (by decide) (Nat.le_of_ble_eq_true rfl) (Or.inl rfl) rfl (sM_steps hp) ?_
  refine Rg.step 9 F_Mo_takeTried_8 rfl (fun _ => rfl) ?_
  refine Rg.step 10 F_Mo_takeTried_9 rfl (fun _ => rfl) ?_
  refine Rg.getf 13 F_Mo_takeTried_10 rfl rF_26_283 (gM hp) rfl ?_
  refine Rg.put 16 F_Mo_takeTried_13 rfl rF_26_245 (gM hp) (by decide) (Nat.le_of_ble_eq_true rfl) (Or.inl rfl) rfl (sM_rows hp) ?_
  refine Rg.step 17 F_Mo_takeTried_16 rfl (fun _ => rfl) ?_
  refine Rg.step 18 F_Mo_takeTried_17 rfl (fun _ => rfl) ?_
  refine Rg.frM (kR_row (mix0_I triedRow row)) (Rg.weak (tt_l1 hp wV ?_ triedRows.toNat 0 (by omega) (by omega)) (by simp [lput1, lput2, Value.category, fi0, fi1, fi2, fi3] <;> first | rfl | exact ⟨rfl, rfl⟩) (by simp [lput1, lput2, Value.category, fi0, fi1, fi2, fi3] <;> first | rfl | exact ⟨rfl, rfl⟩))
  refine Rg.step 45 F_Mo_takeTried_44 rfl (fun _ => rfl) ?_
  refine Rg.step 46 F_Mo_takeTried_45 rfl (fun _ => rfl) ?_
  exact Rg.frM (((((kR_stepAction (mix0_I triedAction stepAction)).trans (kR_startN (mix0_L (fun s => nN (times (2 * s)) unit) startN))).trans (kR_startD (mix0_L (fun s => nD (times (2 * s)) unit) startD))).trans (kR_lengthN (mix0_L (fun s => nN (times (2 * s + 1) - times (2 * s)) unit) lengthN))).trans (kR_lengthD (mix0_L (fun s => nD (times (2 * s + 1) - times (2 * s)) unit) lengthD))) (Rg.weak hg (by simp [lput1, lput2, Value.category, fi0, fi1, fi2, fi3] <;> first | rfl | exact ⟨rfl, rfl⟩) (by simp [lput1, lput2, Value.category, fi0, fi1, fi2, fi3] <;> first | rfl | exact ⟨rfl, rfl⟩))
theorem c_Mo_arrange1 {d : Nat}  (hp : pre.length = 168) (wS : 0 ≤ steps ∧ steps ≤ 12) (wR : 0 ≤ rows ∧ rows ≤ 24) (h : rows < 2 * steps) : Cg false d m_Mo_arrange [.ref 168] (MR pre code amountN amountD momentN momentD epsilonN epsilonD firstFacts firstN firstD wishes wants wantN wantD actions needs needTime needOf needHow needN needD changes changeTime changeOf changeHow changeN changeD lastOf lastN lastD steps stepAction startN startD lengthN lengthD rows row tried triedAction triedRows triedRow times unit facts numN numD oldFacts oldN oldD point judged fault faultPoint toldFacts toldN toldD outN outD pointN pointD gone now leastN leastD greatestN greatestD events post) (.inl (some (.int (iI 0)))) (MR pre 1 amountN amountD momentN momentD epsilonN epsilonD firstFacts firstN firstD wishes wants wantN wantD actions needs needTime needOf needHow needN needD changes changeTime changeOf changeHow changeN changeD lastOf lastN lastD steps stepAction startN startD lengthN lengthD rows row tried triedAction triedRows triedRow times unit facts numN numD oldFacts oldN oldD point judged fault faultPoint toldFacts toldN toldD outN outD pointN pointD gone now leastN leastD greatestN greatestD events post) := by
  refine Cg.of (Nat.le_of_ble_eq_true rfl) ?_
  change Rg _ _ _ _ 0 [(0, .ref 168)] [] _ _ _
  refine Rg.step 1 F_Mo_arrange_0 rfl (fun _ => rfl) ?_
  refine Rg.step 2 F_Mo_arrange_1 rfl (fun _ => rfl) ?_
  refine Rg.getf 5 F_Mo_arrange_2 rfl rF_26_245 (gM hp) rfl ?_
  refine Rg.step 6 F_Mo_arrange_5 rfl (fun _ => rfl) ?_
  refine Rg.step 7 F_Mo_arrange_6 rfl (fun _ => rfl) ?_
  refine Rg.getf 10 F_Mo_arrange_7 rfl rF_26_242 (gM hp) rfl ?_
  refine Rg.mulI 11 F_Mo_arrange_10 rfl ?_
  refine Rg.icgeI 18 14 F_Mo_arrange_11 rfl rfl (by omega) (by omega) (fun h11 => by omega) (fun _ => ?_)
  refine Rg.step 15 F_Mo_arrange_14 rfl (fun _ => rfl) ?_
  refine Rg.step 19 F_Mo_arrange_15 rfl (fun _ => rfl) ?_
  refine Rg.put 22 F_Mo_arrange_19 rfl rF_26_178 (gM hp) (by decide) (Nat.le_of_ble_eq_true rfl) (Or.inl rfl) rfl (sM_code hp) ?_
  refine Rg.step 23 F_Mo_arrange_22 rfl (fun _ => rfl) ?_
  refine Rg.getf 26 F_Mo_arrange_23 rfl rF_26_178 (gM hp) rfl ?_
  refine Rg.ifle 31 29 F_Mo_arrange_26 rfl rfl (fun h26 => absurd h26 (by decide)) (fun _ => ?_)
  refine Rg.step 30 F_Mo_arrange_29 rfl (fun _ => rfl) ?_
  exact Rg.retI F_Mo_arrange_30 rfl rfl rfl
theorem c_Mo_arrange {d : Nat} (hp : pre.length = 168) (hw : WT epsilonN epsilonD wishes wants wantN wantD actions needs needTime needOf needHow needN needD changes changeTime changeOf changeHow changeN changeD lastOf lastN lastD firstN firstD) (wT : ∀ s, 0 ≤ triedAction s ∧ triedAction s < 12) (wS : 0 ≤ steps ∧ steps ≤ 12) (wR : 0 ≤ rows ∧ rows ≤ 24) (hB : ∀ s, 0 ≤ stepAction s ∧ stepAction s < 12) (hA : ∀ s, 0 ≤ s → s < steps → 0 ≤ stepAction s ∧ stepAction s < actions) (hfull : ∀ p, 0 ≤ p → p < 2 * steps → ∃ j, 0 ≤ j ∧ j < rows ∧ row j = p) (hR : rows = 2 * steps) (hrow : ∀ k, 0 ≤ k → k < rows → 0 ≤ row k ∧ row k < 2 * steps) : ∃ (why pt : Int) (F1 : Int → Prop) (N1 D1 : Int → Int) (G1 : Int → Prop) (x1 y1 p1 : Int) (lN1 lD1 gN1 gD1 : Int → Int) (F2 : Int → Prop) (N2 D2 : Int → Int) (u1 : Int) (t1 : Int → Int), ArrR steps rows (mix rows row triedRow) (fun S s t => fit needs needTime needOf needHow needN needD S.1 S.2.1 S.2.2 ((mix steps stepAction triedAction) s) t) (fun S p => chAll changeTime changeOf changeHow changeN changeD (tmo p) (changes ((mix steps stepAction triedAction) (p / 2))).toNat (6 * (mix steps stepAction triedAction) (p / 2)) S) (fun S s => (lbN lastOf lastN lastD epsilonN epsilonD S.2.1 S.2.2 ((mix steps stepAction triedAction) s), lbD lastOf lastN lastD epsilonN epsilonD S.2.1 S.2.2 ((mix steps stepAction triedAction) s), gbN lastOf lastN lastD S.2.1 S.2.2 ((mix steps stepAction triedAction) s), gbD lastOf lastN lastD S.2.1 S.2.2 ((mix steps stepAction triedAction) s))) (fun S => goal wishes wants wantN wantD S.1 S.2.1 S.2.2) (intP (mix steps stepAction triedAction) needs needTime needHow needOf lastOf changes changeTime changeHow changeOf) epsilonN epsilonD (firstFacts, firstN, firstD) why pt (F1, N1, D1) u1 t1 ∧ WN N1 D1 ∧ (0 ≤ why ∧ why ≤ 8) ∧ (why = 0 → (0 < u1 ∧ u1 ≤ 100000) ∧ (∀ p, 0 ≤ p → p < 2 * steps → 0 ≤ t1 p ∧ t1 p ≤ 24000000000) ∧ ∀ s, 0 ≤ s → s < steps → t1 (2 * s) < t1 (2 * s + 1)) ∧ ((1 ≤ why ∧ why ≤ 5 ∧ Cg false (d + 7) m_Mo_arrange [.ref 168] (MR pre code amountN amountD momentN momentD epsilonN epsilonD firstFacts firstN firstD wishes wants wantN wantD actions needs needTime needOf needHow needN needD changes changeTime changeOf changeHow changeN changeD lastOf lastN lastD steps stepAction startN startD lengthN lengthD rows row tried triedAction triedRows triedRow times unit facts numN numD oldFacts oldN oldD point judged fault faultPoint toldFacts toldN toldD outN outD pointN pointD gone now leastN leastD greatestN greatestD events post) (.inl (some (.int (iI why)))) (MR pre 0 amountN amountD momentN momentD epsilonN epsilonD firstFacts firstN firstD wishes wants wantN wantD actions needs needTime needOf needHow needN needD changes changeTime changeOf changeHow changeN changeD lastOf lastN lastD steps stepAction startN startD lengthN lengthD rows row steps (mix steps stepAction triedAction) rows (mix rows row triedRow) t1 u1 F1 N1 D1 F2 N2 D2 p1 1 why pt F1 N1 D1 x1 y1 pointN pointD G1 now lN1 lD1 gN1 gD1 events post)) ∨ (6 ≤ why ∧ Cg false (d + 7) m_Mo_arrange [.ref 168] (MR pre code amountN amountD momentN momentD epsilonN epsilonD firstFacts firstN firstD wishes wants wantN wantD actions needs needTime needOf needHow needN needD changes changeTime changeOf changeHow changeN changeD lastOf lastN lastD steps stepAction startN startD lengthN lengthD rows row tried triedAction triedRows triedRow times unit facts numN numD oldFacts oldN oldD point judged fault faultPoint toldFacts toldN toldD outN outD pointN pointD gone now leastN leastD greatestN greatestD events post) (.inl (some (.int (iI why)))) (MR pre 0 amountN amountD momentN momentD epsilonN epsilonD firstFacts firstN firstD wishes wants wantN wantD actions needs needTime needOf needHow needN needD changes changeTime changeOf changeHow changeN changeD lastOf lastN lastD steps stepAction startN startD lengthN lengthD rows row steps (mix steps stepAction triedAction) rows (mix rows row triedRow) t1 u1 F1 N1 D1 F2 N2 D2 p1 1 why (-1) F1 N1 D1 x1 y1 pointN pointD G1 now lN1 lD1 gN1 gD1 events post)) ∨ (why = 0 ∧ Cg false (d + 7) m_Mo_arrange [.ref 168] (MR pre code amountN amountD momentN momentD epsilonN epsilonD firstFacts firstN firstD wishes wants wantN wantD actions needs needTime needOf needHow needN needD changes changeTime changeOf changeHow changeN changeD lastOf lastN lastD steps stepAction startN startD lengthN lengthD rows row tried triedAction triedRows triedRow times unit facts numN numD oldFacts oldN oldD point judged fault faultPoint toldFacts toldN toldD outN outD pointN pointD gone now leastN leastD greatestN greatestD events post) (.inl (some (.int (iI why)))) (MR pre 0 amountN amountD momentN momentD epsilonN epsilonD firstFacts firstN firstD wishes wants wantN wantD actions needs needTime needOf needHow needN needD changes changeTime changeOf changeHow changeN changeD lastOf lastN lastD steps (mix steps (mix steps stepAction triedAction) stepAction) (mix steps (fun s => nN (t1 (2 * s)) u1) startN) (mix steps (fun s => nD (t1 (2 * s)) u1) startD) (mix steps (fun s => nN (t1 (2 * s + 1) - t1 (2 * s)) u1) lengthN) (mix steps (fun s => nD (t1 (2 * s + 1) - t1 (2 * s)) u1) lengthD) rows (mix rows (mix rows row triedRow) row) steps (mix steps stepAction triedAction) rows (mix rows row triedRow) t1 u1 F1 N1 D1 F2 N2 D2 p1 1 why (-1) F1 N1 D1 x1 y1 pointN pointD G1 now lN1 lD1 gN1 gD1 events post))) := by
  have wT2 : ∀ s, 0 ≤ (mix steps stepAction triedAction) s ∧ (mix steps stepAction triedAction) s < 12 := fun s => by
    unfold mix
    by_cases h : s < steps
    · rw [if_pos h]; exact hB s
    · rw [if_neg h]; exact wT s
  have hact2 : ∀ s, 0 ≤ s → s < steps → 0 ≤ (mix steps stepAction triedAction) s ∧ (mix steps stepAction triedAction) s < actions := fun s z1 z2 => by unfold mix; rw [if_pos z2]; exact hA s z1 z2
  have hrow2 : ∀ k, 0 ≤ k → k < rows → 0 ≤ (mix rows row triedRow) k ∧ (mix rows row triedRow) k < 2 * steps := fun k z1 z2 => by unfold mix; rw [if_pos z2]; exact hrow k z1 z2
  have hfull2 : ∀ p, 0 ≤ p → p < 2 * steps → ∃ j, 0 ≤ j ∧ j < rows ∧ (mix rows row triedRow) j = p := fun p z1 z2 => by
    obtain ⟨j, j1, j2, j3⟩ := hfull p z1 z2
    exact ⟨j, j1, j2, by unfold mix; rw [if_pos j2]; exact j3⟩
  obtain ⟨why, pt, F1, N1, D1, G1, x1, y1, p1, lN1, lD1, gN1, gD1, F2, N2, D2, u1, t1, hAr, wN1, hwy, hp1, h00, hca⟩ := c_Mo_arranged (d := d) (pre := pre) (post := post) (code := 0) (amountN := amountN) (amountD := amountD) (momentN := momentN) (momentD := momentD) (epsilonN := epsilonN) (epsilonD := epsilonD) (firstFacts := firstFacts) (firstN := firstN) (firstD := firstD) (wishes := wishes) (wants := wants) (wantN := wantN) (wantD := wantD) (actions := actions) (needs := needs) (needTime := needTime) (needOf := needOf) (needHow := needHow) (needN := needN) (needD := needD) (changes := changes) (changeTime := changeTime) (changeOf := changeOf) (changeHow := changeHow) (changeN := changeN) (changeD := changeD) (lastOf := lastOf) (lastN := lastN) (lastD := lastD) (steps := steps) (stepAction := stepAction) (startN := startN) (startD := startD) (lengthN := lengthN) (lengthD := lengthD) (rows := rows) (row := row) (tried := steps) (triedAction := (mix steps stepAction triedAction)) (triedRows := rows) (triedRow := (mix rows row triedRow)) (times := times) (unit := unit) (facts := facts) (numN := numN) (numD := numD) (oldFacts := oldFacts) (oldN := oldN) (oldD := oldD) (point := point) (judged := judged) (fault := fault) (faultPoint := faultPoint) (toldFacts := toldFacts) (toldN := toldN) (toldD := toldD) (outN := outN) (outD := outD) (pointN := pointN) (pointD := pointD) (gone := gone) (now := now) (leastN := leastN) (leastD := leastD) (greatestN := greatestN) (greatestD := greatestD) (events := events) hp hw wT2 wS hact2 wR hrow2 hfull2 hR
  by_cases h0 : why = 0
  · subst h0
    obtain ⟨hu, hbt, -⟩ := h00 rfl
    obtain ⟨x9, y9, htt⟩ := c_Mo_takeTried (d := d + 3) (pre := pre) (post := post) (code := 0) (amountN := amountN) (amountD := amountD) (momentN := momentN) (momentD := momentD) (epsilonN := epsilonN) (epsilonD := epsilonD) (firstFacts := firstFacts) (firstN := firstN) (firstD := firstD) (wishes := wishes) (wants := wants) (wantN := wantN) (wantD := wantD) (actions := actions) (needs := needs) (needTime := needTime) (needOf := needOf) (needHow := needHow) (needN := needN) (needD := needD) (changes := changes) (changeTime := changeTime) (changeOf := changeOf) (changeHow := changeHow) (changeN := changeN) (changeD := changeD) (lastOf := lastOf) (lastN := lastN) (lastD := lastD) (steps := steps) (stepAction := stepAction) (startN := startN) (startD := startD) (lengthN := lengthN) (lengthD := lengthD) (rows := rows) (row := row) (tried := steps) (triedAction := (mix steps stepAction triedAction)) (triedRows := rows) (triedRow := (mix rows row triedRow)) (times := t1) (unit := u1) (facts := F1) (numN := N1) (numD := D1) (oldFacts := F2) (oldN := N2) (oldD := D2) (point := p1) (judged := judged) (fault := fault) (faultPoint := faultPoint) (toldFacts := toldFacts) (toldN := toldN) (toldD := toldD) (outN := x1) (outD := y1) (pointN := pointN) (pointD := pointD) (gone := G1) (now := now) (leastN := lN1) (leastD := lD1) (greatestN := gN1) (greatestD := gD1) (events := events) hp wS wR hu hbt
    refine ⟨0, pt, F1, N1, D1, G1, x9, y9, p1, lN1, lD1, gN1, gD1, F2, N2, D2, u1, t1, hAr, wN1, hwy, h00, Or.inr (Or.inr ⟨rfl, ?_⟩)⟩
    refine Cg.of (Nat.le_of_ble_eq_true rfl) ?_
    change Rg _ _ _ _ 0 [(0, .ref 168)] [] _ _ _
    refine Rg.step 1 F_Mo_arrange_0 rfl (fun _ => rfl) ?_
    refine Rg.step 2 F_Mo_arrange_1 rfl (fun _ => rfl) ?_
    refine Rg.getf 5 F_Mo_arrange_2 rfl rF_26_245 (gM hp) rfl ?_
    refine Rg.step 6 F_Mo_arrange_5 rfl (fun _ => rfl) ?_
    refine Rg.step 7 F_Mo_arrange_6 rfl (fun _ => rfl) ?_
    refine Rg.getf 10 F_Mo_arrange_7 rfl rF_26_242 (gM hp) rfl ?_
    refine Rg.mulI 11 F_Mo_arrange_10 rfl ?_
    refine Rg.icgeI 18 14 F_Mo_arrange_11 rfl rfl (by omega) (by omega) (fun _ => ?_) (fun h11 => by omega)
    refine Rg.step 19 F_Mo_arrange_18 rfl (fun _ => rfl) ?_
    refine Rg.put 22 F_Mo_arrange_19 rfl rF_26_178 (gM hp) (by decide) (Nat.le_of_ble_eq_true rfl) (Or.inl rfl) rfl (sM_code hp) ?_
    refine Rg.step 23 F_Mo_arrange_22 rfl (fun _ => rfl) ?_
    refine Rg.getf 26 F_Mo_arrange_23 rfl rF_26_178 (gM hp) rfl ?_
    refine Rg.ifle 31 29 F_Mo_arrange_26 rfl rfl (fun _ => ?_) (fun h26 => absurd h26 (by decide))
    refine Rg.step 32 F_Mo_arrange_31 rfl (fun _ => rfl) ?_
    refine Rg.call 35 F_Mo_arrange_32 rfl (one_V rM_26_327 (by decide) (by simp) rfl rfl (gM hp) rfl) (Nat.le_of_ble_eq_true rfl) (c_Mo_takePlan hp wS wR) ?_
    refine Rg.step 36 F_Mo_arrange_35 rfl (fun _ => rfl) ?_
    refine Rg.call 39 F_Mo_arrange_36 rfl (one_V rM_26_385 (by decide) (by simp) rfl rfl (gM hp) rfl) (Nat.le_of_ble_eq_true rfl) hca ?_
    refine Rg.step 40 F_Mo_arrange_39 rfl (fun _ => rfl) ?_
    refine Rg.step 41 F_Mo_arrange_40 rfl (fun _ => rfl) ?_
    refine Rg.ifneI 48 44 F_Mo_arrange_41 rfl rfl (by omega) (fun h41 => by omega) (fun _ => ?_)
    refine Rg.step 45 F_Mo_arrange_44 rfl (fun _ => rfl) ?_
    refine Rg.call 48 F_Mo_arrange_45 rfl (one_V rM_26_388 (by decide) (by simp) rfl rfl (gM hp) rfl) (Nat.le_of_ble_eq_true rfl) htt ?_
    refine Rg.step 49 F_Mo_arrange_48 rfl (fun _ => rfl) ?_
    refine Rg.step 50 F_Mo_arrange_49 rfl (fun _ => rfl) ?_
    refine Rg.call 53 F_Mo_arrange_50 rfl (one_V rM_26_347 (by decide) (by simp) rfl rfl (gM hp) rfl) (Nat.le_of_ble_eq_true rfl) (c_Mo_tell0 hp (by omega) (by omega)) ?_
    refine Rg.step 54 F_Mo_arrange_53 rfl (fun _ => rfl) ?_
    exact Rg.retI F_Mo_arrange_54 rfl rfl rfl
  · by_cases h5 : why ≤ 5
    · have e5 : p1 = pt := hp1 (by omega) h5
      subst e5
      refine ⟨why, p1, F1, N1, D1, G1, x1, y1, p1, lN1, lD1, gN1, gD1, F2, N2, D2, u1, t1, hAr, wN1, hwy, h00, Or.inl ⟨by omega, h5, ?_⟩⟩
      refine Cg.of (Nat.le_of_ble_eq_true rfl) ?_
      change Rg _ _ _ _ 0 [(0, .ref 168)] [] _ _ _
      refine Rg.step 1 F_Mo_arrange_0 rfl (fun _ => rfl) ?_
      refine Rg.step 2 F_Mo_arrange_1 rfl (fun _ => rfl) ?_
      refine Rg.getf 5 F_Mo_arrange_2 rfl rF_26_245 (gM hp) rfl ?_
      refine Rg.step 6 F_Mo_arrange_5 rfl (fun _ => rfl) ?_
      refine Rg.step 7 F_Mo_arrange_6 rfl (fun _ => rfl) ?_
      refine Rg.getf 10 F_Mo_arrange_7 rfl rF_26_242 (gM hp) rfl ?_
      refine Rg.mulI 11 F_Mo_arrange_10 rfl ?_
      refine Rg.icgeI 18 14 F_Mo_arrange_11 rfl rfl (by omega) (by omega) (fun _ => ?_) (fun h11 => by omega)
      refine Rg.step 19 F_Mo_arrange_18 rfl (fun _ => rfl) ?_
      refine Rg.put 22 F_Mo_arrange_19 rfl rF_26_178 (gM hp) (by decide) (Nat.le_of_ble_eq_true rfl) (Or.inl rfl) rfl (sM_code hp) ?_
      refine Rg.step 23 F_Mo_arrange_22 rfl (fun _ => rfl) ?_
      refine Rg.getf 26 F_Mo_arrange_23 rfl rF_26_178 (gM hp) rfl ?_
      refine Rg.ifle 31 29 F_Mo_arrange_26 rfl rfl (fun _ => ?_) (fun h26 => absurd h26 (by decide))
      refine Rg.step 32 F_Mo_arrange_31 rfl (fun _ => rfl) ?_
      refine Rg.call 35 F_Mo_arrange_32 rfl (one_V rM_26_327 (by decide) (by simp) rfl rfl (gM hp) rfl) (Nat.le_of_ble_eq_true rfl) (c_Mo_takePlan hp wS wR) ?_
      refine Rg.step 36 F_Mo_arrange_35 rfl (fun _ => rfl) ?_
      refine Rg.call 39 F_Mo_arrange_36 rfl (one_V rM_26_385 (by decide) (by simp) rfl rfl (gM hp) rfl) (Nat.le_of_ble_eq_true rfl) hca ?_
      refine Rg.step 40 F_Mo_arrange_39 rfl (fun _ => rfl) ?_
      refine Rg.step 41 F_Mo_arrange_40 rfl (fun _ => rfl) ?_
      refine Rg.ifneI 48 44 F_Mo_arrange_41 rfl rfl (by omega) (fun _ => ?_) (fun h41 => by omega)
      refine Rg.step 49 F_Mo_arrange_48 rfl (fun _ => rfl) ?_
      refine Rg.step 50 F_Mo_arrange_49 rfl (fun _ => rfl) ?_
      refine Rg.call 53 F_Mo_arrange_50 rfl (one_V rM_26_347 (by decide) (by simp) rfl rfl (gM hp) rfl) (Nat.le_of_ble_eq_true rfl) (c_Mo_tell1 hp (by omega)) ?_
      refine Rg.step 54 F_Mo_arrange_53 rfl (fun _ => rfl) ?_
      exact Rg.retI F_Mo_arrange_54 rfl rfl rfl
    · refine ⟨why, pt, F1, N1, D1, G1, x1, y1, p1, lN1, lD1, gN1, gD1, F2, N2, D2, u1, t1, hAr, wN1, hwy, h00, Or.inr (Or.inl ⟨by omega, ?_⟩)⟩
      refine Cg.of (Nat.le_of_ble_eq_true rfl) ?_
      change Rg _ _ _ _ 0 [(0, .ref 168)] [] _ _ _
      refine Rg.step 1 F_Mo_arrange_0 rfl (fun _ => rfl) ?_
      refine Rg.step 2 F_Mo_arrange_1 rfl (fun _ => rfl) ?_
      refine Rg.getf 5 F_Mo_arrange_2 rfl rF_26_245 (gM hp) rfl ?_
      refine Rg.step 6 F_Mo_arrange_5 rfl (fun _ => rfl) ?_
      refine Rg.step 7 F_Mo_arrange_6 rfl (fun _ => rfl) ?_
      refine Rg.getf 10 F_Mo_arrange_7 rfl rF_26_242 (gM hp) rfl ?_
      refine Rg.mulI 11 F_Mo_arrange_10 rfl ?_
      refine Rg.icgeI 18 14 F_Mo_arrange_11 rfl rfl (by omega) (by omega) (fun _ => ?_) (fun h11 => by omega)
      refine Rg.step 19 F_Mo_arrange_18 rfl (fun _ => rfl) ?_
      refine Rg.put 22 F_Mo_arrange_19 rfl rF_26_178 (gM hp) (by decide) (Nat.le_of_ble_eq_true rfl) (Or.inl rfl) rfl (sM_code hp) ?_
      refine Rg.step 23 F_Mo_arrange_22 rfl (fun _ => rfl) ?_
      refine Rg.getf 26 F_Mo_arrange_23 rfl rF_26_178 (gM hp) rfl ?_
      refine Rg.ifle 31 29 F_Mo_arrange_26 rfl rfl (fun _ => ?_) (fun h26 => absurd h26 (by decide))
      refine Rg.step 32 F_Mo_arrange_31 rfl (fun _ => rfl) ?_
      refine Rg.call 35 F_Mo_arrange_32 rfl (one_V rM_26_327 (by decide) (by simp) rfl rfl (gM hp) rfl) (Nat.le_of_ble_eq_true rfl) (c_Mo_takePlan hp wS wR) ?_
      refine Rg.step 36 F_Mo_arrange_35 rfl (fun _ => rfl) ?_
      refine Rg.call 39 F_Mo_arrange_36 rfl (one_V rM_26_385 (by decide) (by simp) rfl rfl (gM hp) rfl) (Nat.le_of_ble_eq_true rfl) hca ?_
      refine Rg.step 40 F_Mo_arrange_39 rfl (fun _ => rfl) ?_
      refine Rg.step 41 F_Mo_arrange_40 rfl (fun _ => rfl) ?_
      refine Rg.ifneI 48 44 F_Mo_arrange_41 rfl rfl (by omega) (fun _ => ?_) (fun h41 => by omega)
      refine Rg.step 49 F_Mo_arrange_48 rfl (fun _ => rfl) ?_
      refine Rg.step 50 F_Mo_arrange_49 rfl (fun _ => rfl) ?_
      refine Rg.call 53 F_Mo_arrange_50 rfl (one_V rM_26_347 (by decide) (by simp) rfl rfl (gM hp) rfl) (Nat.le_of_ble_eq_true rfl) (c_Mo_tell0 hp (by omega) (by omega)) ?_
      refine Rg.step 54 F_Mo_arrange_53 rfl (fun _ => rfl) ?_
      exact Rg.retI F_Mo_arrange_54 rfl rfl rfl
end R55
