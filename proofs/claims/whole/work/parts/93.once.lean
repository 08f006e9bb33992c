/-! Judging and arranging have one outcome; the times that are told. -/
section D93
variable {m : Int} {W W' : (Int → Prop) → (Int → Prop) → NS → Int → Int → Prop} {C C' : (Int → Prop) → NS → Int ⊕ NS} {O O' : NS → Int → Prop} {T T' : (Int → Prop) → Int → Prop}
def EqR (m : Int) (a b : Int → Prop) : Prop := ∀ p, 0 ≤ p → p < m → (a p ↔ b p)
def HWc (m : Int) (W W' : (Int → Prop) → (Int → Prop) → NS → Int → Int → Prop) : Prop := ∀ now now' gone gone' S w q, EqR m now now' → EqR m gone gone' → 0 ≤ q → q < m → (W now gone S w q ↔ W' now' gone' S w q)
def HCc (m : Int) (C C' : (Int → Prop) → NS → Int ⊕ NS) : Prop := ∀ now now' S, EqR m now now' → C now S = C' now' S
def HOc (m : Int) (O O' : NS → Int → Prop) : Prop := ∀ S s, 0 ≤ s → 2 * s < m → (O S s ↔ O' S s)
def HTc (m : Int) (T T' : (Int → Prop) → Int → Prop) : Prop := ∀ gone gone' p, EqR m gone gone' → 0 ≤ p → p < m → (T gone p ↔ T' gone' p)
theorem PassR_det (hm : m % 2 = 0) (hW : HWc m W W') (hC : HCc m C C') (hO : HOc m O O') {now now' gone gone' gone1 gone1' : Int → Prop} {S S1 S1' : NS} {why pt why' pt' : Int} (hn : EqR m now now') (hg : EqR m gone gone') (h : PassR m W C O now gone S why pt S1 gone1) (h' : PassR m W' C' O' now' gone' S why' pt' S1' gone1') : why = why' ∧ S1 = S1' ∧ (¬ why = 0 → pt = pt') ∧ (why = 0 → EqR m gone1 gone1') := by
  rcases h with ⟨a1, a2, a3, a4, a5, a6, a7, a8, a9⟩ | ⟨a0, h⟩
  · rcases h' with ⟨b1, b2, b3, b4, b5, b6, b7, b8, b9⟩ | ⟨b0, h'⟩
    · have e : why = why' := by
        rcases Int.lt_trichotomy why why' with z | z | z
        · exact absurd ((hW _ _ _ _ _ _ _ hn hg a3 a4).mp a6) (b8 why pt a1 z a3 a4 ((hn pt a3 a4).mp a5))
        · exact z
        · exact absurd ((hW _ _ _ _ _ _ _ hn hg b3 b4).mpr b6) (a8 why' pt' b1 z b3 b4 ((hn pt' b3 b4).mpr b5))
      subst e
      have e2 : pt = pt' := by
        rcases Int.lt_trichotomy pt pt' with z | z | z
        · exact absurd ((hW _ _ _ _ _ _ _ hn hg a3 a4).mp a6) (b7 pt a3 z ((hn pt a3 a4).mp a5))
        · exact z
        · exact absurd ((hW _ _ _ _ _ _ _ hn hg b3 b4).mpr b6) (a7 pt' b3 z ((hn pt' b3 b4).mpr b5))
      exact ⟨rfl, a9.trans b9.symm, fun _ => e2, fun z => by omega⟩
    · exact absurd ((hW _ _ _ _ _ _ _ hn hg a3 a4).mp a6) (b0 why pt a1 a2 a3 a4 ((hn pt a3 a4).mp a5))
  · rcases h' with ⟨b1, b2, b3, b4, b5, b6, b7, b8, b9⟩ | ⟨b0, h'⟩
    · exact absurd ((hW _ _ _ _ _ _ _ hn hg b3 b4).mpr b6) (a0 why' pt' b1 b2 b3 b4 ((hn pt' b3 b4).mpr b5))
    · have ec := hC now now' S hn
      rcases h with ⟨c1, c2, c3⟩ | ⟨c1, c2, c3⟩
      · rcases h' with ⟨d1, d2, d3⟩ | ⟨d1, d2, d3⟩
        · rw [c2, d2] at ec
          exact ⟨by omega, c3.trans d3.symm, fun _ => Sum.inl.inj ec, fun z => by omega⟩
        · rw [c2, d1] at ec
          cases ec
      · rcases h' with ⟨d1, d2, d3⟩ | ⟨d1, d2, d3⟩
        · rw [c1, d2] at ec
          cases ec
        · rw [c1, d1] at ec
          have e1 : S1 = S1' := Sum.inr.inj ec
          subst e1
          have eg : EqR m gone1 gone1' := fun p p1 p2 => by
            rw [c2 p p1 p2, d2 p p1 p2, hg p p1 p2, hn p p1 p2]
          have key : ∀ s, 0 ≤ s → 2 * s < m → ((gone1 (2 * s) ∧ ¬ gone1 (2 * s + 1) ∧ ¬ O S1 s) ↔ (gone1' (2 * s) ∧ ¬ gone1' (2 * s + 1) ∧ ¬ O' S1 s)) := fun s s1 s2 => by
            rw [eg (2 * s) (by omega) s2, eg (2 * s + 1) (by omega) (by omega), hO S1 s s1 s2]
          rcases c3 with ⟨w5, s, x1, x2, x3, x4, x5⟩ | ⟨w0, x1⟩
          · rcases d3 with ⟨v5, s', y1, y2, y3, y4, y5⟩ | ⟨v0, y1⟩
            · refine ⟨by omega, rfl, fun _ => ?_, fun z => by omega⟩
              have : s = s' := by
                rcases Int.lt_trichotomy s s' with z | z | z
                · exact absurd ((key s x2 x3).mp x4) (y5 s x2 z)
                · exact z
                · exact absurd ((key s' y2 y3).mpr y4) (x5 s' y2 z)
              omega
            · exact absurd ((key s x2 x3).mp x4) (y1 s x2 x3)
          · rcases d3 with ⟨v5, s', y1, y2, y3, y4, y5⟩ | ⟨v0, y1⟩
            · exact absurd ((key s' y2 y3).mpr y4) (x1 s' y2 y3)
            · exact ⟨by omega, rfl, fun z => absurd w0 z, fun _ => eg⟩
theorem JR_det (hm : m % 2 = 0) (hW : HWc m W W') (hC : HCc m C C') (hO : HOc m O O') (hT : HTc m T T') : ∀ (n : Nat) (gone gone' : Int → Prop) (S : NS) (why pt : Int) (S1 : NS) (why' pt' : Int) (S1' : NS), EqR m gone gone' → JR m W C O T n gone S why pt S1 → JR m W' C' O' T' n gone' S why' pt' S1' → why = why' ∧ S1 = S1' ∧ (¬ why = 0 → pt = pt') := by
  intro n
  induction n with
  | zero =>
    intro gone gone' S why pt S1 why' pt' S1' hg h h'
    obtain ⟨a1, a2, a3⟩ := h
    obtain ⟨b1, b2, b3⟩ := h'
    exact ⟨by omega, a3.trans b3.symm, fun z => absurd a2 z⟩
  | succ n ih =>
    intro gone gone' S why pt S1 why' pt' S1' hg h h'
    rcases h with ⟨a1, a2, a3⟩ | ⟨⟨p, p1, p2, p3⟩, now, w1, t1, S2, g1, hT1, hP, h⟩
    · rcases h' with ⟨b1, b2, b3⟩ | ⟨⟨q, q1, q2, q3⟩, h'⟩
      · exact ⟨by omega, a3.trans b3.symm, fun z => absurd a2 z⟩
      · exact absurd ((hg q q1 q2).mp (a1 q q1 q2)) q3
    · rcases h' with ⟨b1, b2, b3⟩ | ⟨-, now', w1', t1', S2', g1', hT1', hP', h'⟩
      · exact absurd ((hg p p1 p2).mpr (b1 p p1 p2)) p3
      · have hn : EqR m now now' := fun q q1 q2 => (hT1 q q1 q2).trans ((hT gone gone' q hg q1 q2).trans (hT1' q q1 q2).symm)
        obtain ⟨e1, e2, e3, e4⟩ := PassR_det hm hW hC hO hn hg hP hP'
        subst e1
        subst e2
        rcases h with ⟨x1, x2, x3, x4⟩ | ⟨x1, x2⟩
        · rcases h' with ⟨y1, y2, y3, y4⟩ | ⟨y1, y2⟩
          · exact ⟨by omega, x4.trans y4.symm, fun _ => by rw [x3, y3]; exact e3 x1⟩
          · exact absurd y1 x1
        · rcases h' with ⟨y1, y2, y3, y4⟩ | ⟨y1, y2⟩
          · exact absurd x1 y1
          · exact ih g1 g1' S2 why pt S1 why' pt' S1' (e4 x1) x2 y2
end D93
section E93
variable {st : Int} {A A' needs needTime needHow needOf needN needD lastOf lastN lastD changes changeTime changeHow changeOf changeN changeD : Int → Int} {eN eD : Int} {tN tN' tD tD' lN lN' lD lD' : Int → Int}
theorem wrongR_c (hA : ∀ s, 0 ≤ s → s < st → A s = A' s) (hN : ∀ p, 0 ≤ p → p < 2 * st → tN p = tN' p ∧ tD p = tD' p) (hL : ∀ s, 0 ≤ s → s < st → lN s = lN' s ∧ lD s = lD' s) : HWc (2 * st) (wrongR st A needs needTime needHow needOf needN needD lastOf lastN lastD changes changeTime changeHow changeOf eN eD tN tD lN lD) (wrongR st A' needs needTime needHow needOf needN needD lastOf lastN lastD changes changeTime changeHow changeOf eN eD tN' tD' lN' lD') := by
  intro now now' gone gone' S w p hn hg p1 p2
  have a1 := hA (p / 2) (by omega) (by omega)
  obtain ⟨n1, n2⟩ := hN p p1 p2
  obtain ⟨l1, l2⟩ := hL (p / 2) (by omega) (by omega)
  unfold wrongR
  rw [a1, l1, l2]
  refine or_congr (and_congr Iff.rfl ?_) Iff.rfl
  unfold distP
  refine exists_congr (fun q => ?_)
  by_cases hq : 0 ≤ q ∧ q < 2 * st
  · have b1 := hA (q / 2) (by omega) (by omega)
    obtain ⟨m1, m2⟩ := hN q hq.1 hq.2
    have b2 := hn q hq.1 hq.2
    have b3 := hg q hq.1 hq.2
    unfold nearP intP
    rw [a1, b1, b2, b3, n1, n2, m1, m2]
  · exact ⟨fun z => absurd ⟨z.1, z.2.1⟩ hq, fun z => absurd ⟨z.1, z.2.1⟩ hq⟩
theorem chRow_c {now now' : Int → Prop} : ∀ (n : Nat) (p : Int) (S : NS), (∀ r, p ≤ r → r < p + n → (now r ↔ now' r) ∧ A (r / 2) = A' (r / 2)) → chRow A changes changeTime changeOf changeHow changeN changeD now n p S = chRow A' changes changeTime changeOf changeHow changeN changeD now' n p S := by
  intro n
  induction n with
  | zero => intro p S _; rfl
  | succ n ih =>
    intro p S h
    obtain ⟨h1, h2⟩ := h p (by omega) (by omega)
    have ih1 : ∀ S1, chRow A changes changeTime changeOf changeHow changeN changeD now n (p + 1) S1 = chRow A' changes changeTime changeOf changeHow changeN changeD now' n (p + 1) S1 := fun S1 => ih (p + 1) S1 (fun r r1 r2 => h r (by omega) (by omega))
    rw [chRow, chRow, h2]
    by_cases hp : now p
    · rw [if_pos hp, if_pos (h1.mp hp)]
      split
      · rfl
      · exact ih1 _
    · rw [if_neg hp, if_neg (fun z => hp (h1.mpr z))]
      exact ih1 _
theorem chRow_cc (hs : 0 ≤ st) (hA : ∀ s, 0 ≤ s → s < st → A s = A' s) : HCc (2 * st) (fun now S => chRow A changes changeTime changeOf changeHow changeN changeD now (2 * st).toNat 0 S) (fun now S => chRow A' changes changeTime changeOf changeHow changeN changeD now (2 * st).toNat 0 S) := by
  intro now now' S hn
  exact chRow_c _ _ _ (fun r r1 r2 => ⟨hn r r1 (by omega), hA (r / 2) (by omega) (by omega)⟩)
theorem fit_cc (hA : ∀ s, 0 ≤ s → s < st → A s = A' s) : HOc (2 * st) (fun S s => fit needs needTime needOf needHow needN needD S.1 S.2.1 S.2.2 (A s) 1) (fun S s => fit needs needTime needOf needHow needN needD S.1 S.2.1 S.2.2 (A' s) 1) := by
  intro S s s1 s2
  dsimp only
  rw [hA s s1 (by omega)]
theorem tfst_cc (hN : ∀ p, 0 ≤ p → p < 2 * st → tN p = tN' p ∧ tD p = tD' p) : HTc (2 * st) (fun gone p => tfst st tN tD gone p) (fun gone p => tfst st tN' tD' gone p) := by
  intro gone gone' p hg p1 p2
  obtain ⟨n1, n2⟩ := hN p p1 p2
  dsimp only
  unfold tfst
  rw [hg p p1 p2, n1, n2]
  refine and_congr Iff.rfl ⟨fun h q q1 q2 q3 => ?_, fun h q q1 q2 q3 => ?_⟩
  · obtain ⟨m1, m2⟩ := hN q q1 q2
    rw [← m1, ← m2]
    exact h q q1 q2 (fun z => q3 ((hg q q1 q2).mp z))
  · obtain ⟨m1, m2⟩ := hN q q1 q2
    rw [m1, m2]
    exact h q q1 q2 (fun z => q3 ((hg q q1 q2).mpr z))
/-- one plan, judged twice -/
theorem judge_det (hs : 0 ≤ st) (hA : ∀ s, 0 ≤ s → s < st → A s = A' s) (hN : ∀ p, 0 ≤ p → p < 2 * st → tN p = tN' p ∧ tD p = tD' p) (hL : ∀ s, 0 ≤ s → s < st → lN s = lN' s ∧ lD s = lD' s) {S S1 S1' : NS} {why pt why' pt' : Int}
    (h : JR (2 * st) (wrongR st A needs needTime needHow needOf needN needD lastOf lastN lastD changes changeTime changeHow changeOf eN eD tN tD lN lD) (fun now S => chRow A changes changeTime changeOf changeHow changeN changeD now (2 * st).toNat 0 S) (fun S s => fit needs needTime needOf needHow needN needD S.1 S.2.1 S.2.2 (A s) 1) (fun gone p => tfst st tN tD gone p) 24 (fun _ => False) S why pt S1)
    (h' : JR (2 * st) (wrongR st A' needs needTime needHow needOf needN needD lastOf lastN lastD changes changeTime changeHow changeOf eN eD tN' tD' lN' lD') (fun now S => chRow A' changes changeTime changeOf changeHow changeN changeD now (2 * st).toNat 0 S) (fun S s => fit needs needTime needOf needHow needN needD S.1 S.2.1 S.2.2 (A' s) 1) (fun gone p => tfst st tN' tD' gone p) 24 (fun _ => False) S why' pt' S1') : why = why' ∧ S1 = S1' ∧ (¬ why = 0 → pt = pt') :=
  JR_det (by omega) (wrongR_c hA hN hL) (chRow_cc hs hA) (fit_cc hA) (tfst_cc hN) 24 _ _ S why pt S1 why' pt' S1' (fun _ _ _ => Iff.rfl) h h'
end E93
/-- a fraction in lowest terms is the smallest of its value -/
theorem low_le {n d N M : Int} (hd : 0 < d) (hM : 0 < M) (hN : 0 < N) (h : n * M = N * d) : nN n d ≤ N ∧ nD n d ≤ M := by
  have hg := gcd_pos' (n := n) hd
  have hp := nD_pos (n := n) hd
  have h1 : nN n d * M = N * nD n d := by
    refine Int.eq_of_mul_eq_mul_right (show (Int.gcd n d : Int) ≠ 0 by omega) ?_
    rw [Int.mul_assoc, Int.mul_comm M, ← Int.mul_assoc, nN_mul, Int.mul_assoc, nD_mul]
    exact h
  have hc : Nat.Coprime (nD n d).natAbs (nN n d).natAbs := by
    have := nlow (n := n) hd
    unfold Nat.Coprime
    rw [Nat.gcd_comm]
    exact this
  have h2 : (nD n d).natAbs ∣ (nN n d).natAbs * M.natAbs := by
    rw [← Int.natAbs_mul, h1, Int.natAbs_mul]
    exact Nat.dvd_mul_left _ _
  have h3 := Nat.le_of_dvd (by omega) (hc.dvd_of_dvd_mul_left h2)
  have h4 : nD n d ≤ M := by omega
  refine ⟨?_, h4⟩
  have h5 : N * nD n d ≤ N * M := Int.mul_le_mul_of_nonneg_left h4 (by omega)
  exact Int.le_of_mul_le_mul_right (by omega : nN n d * M ≤ N * M) hM
theorem nN_nn {n d : Int} (hn : 0 ≤ n) : 0 ≤ nN n d := by
  unfold nN
  exact Int.ediv_nonneg hn (by omega)
theorem nN_ps {n d : Int} (hd : 0 < d) (hn : 0 < n) : 0 < nN n d := by
  have h1 := nN_mul (n := n) (q := d)
  have h2 := nN_nn (n := n) (d := d) (by omega)
  refine Classical.byContradiction (fun z => ?_)
  have : nN n d = 0 := by omega
  rw [this, Int.zero_mul] at h1
  omega
theorem sum_red {u a b : Int} (hu : 0 < u) : (nN a u * nD b u + nN b u * nD a u) * u = (a + b) * (nD a u * nD b u) := by
  have ha := nN_mul (n := a) (q := u)
  have hb := nN_mul (n := b) (q := u)
  have ka := nD_mul (n := a) (q := u)
  have kb := nD_mul (n := b) (q := u)
  have e1 : nN a u * u = a * nD a u := by
    have : nN a u * (nD a u * (Int.gcd a u : Int)) = (nN a u * (Int.gcd a u : Int)) * nD a u := by rw [Int.mul_comm (nD a u), Int.mul_assoc]
    rw [ka, ha] at this
    exact this
  have e2 : nN b u * u = b * nD b u := by
    have : nN b u * (nD b u * (Int.gcd b u : Int)) = (nN b u * (Int.gcd b u : Int)) * nD b u := by rw [Int.mul_comm (nD b u), Int.mul_assoc]
    rw [kb, hb] at this
    exact this
  rw [Int.add_mul, Int.add_mul]
  have f1 : nN a u * nD b u * u = a * (nD a u * nD b u) := by rw [Int.mul_assoc, Int.mul_comm (nD b u) u, ← Int.mul_assoc, e1, Int.mul_assoc]
  have f2 : nN b u * nD a u * u = b * (nD a u * nD b u) := by rw [Int.mul_assoc, Int.mul_comm (nD a u) u, ← Int.mul_assoc, e2, Int.mul_assoc, Int.mul_comm (nD b u)]
  rw [f1, f2]
theorem WPL_times {st u : Int} {t : Int → Int} {bN bD lN lD : Int → Int} (hu : 0 < u ∧ u ≤ 100000) (ht : ∀ p, 0 ≤ p → p < 2 * st → 0 ≤ t p ∧ t p ≤ 24000000000) (hl : ∀ s, 0 ≤ s → s < st → t (2 * s) < t (2 * s + 1)) (h : ∀ s, 0 ≤ s → s < st → bN s = nN (t (2 * s)) u ∧ bD s = nD (t (2 * s)) u ∧ lN s = nN (t (2 * s + 1) - t (2 * s)) u ∧ lD s = nD (t (2 * s + 1) - t (2 * s)) u) : WPL st bN bD lN lD := by
  intro s s1 s2
  obtain ⟨e1, e2, e3, e4⟩ := h s s1 s2
  have t0 := ht (2 * s) (by omega) (by omega)
  have t1 := ht (2 * s + 1) (by omega) (by omega)
  have hlt := hl s s1 s2
  have d0 := nD_pos (n := t (2 * s)) hu.1
  have d1 := nD_pos (n := t (2 * s + 1) - t (2 * s)) hu.1
  have b0 := nN_bd (n := t (2 * s)) (q := u) (B := 24000000000) hu.1 (by omega)
  have b1 := nN_bd (n := t (2 * s + 1) - t (2 * s)) (q := u) (B := 24000000000) hu.1 (by omega)
  have n0 := nN_nn (n := t (2 * s)) (d := u) t0.1
  have n1 := nN_ps (n := t (2 * s + 1) - t (2 * s)) hu.1 (by omega)
  have hp : 0 < nD (t (2 * s)) u * nD (t (2 * s + 1) - t (2 * s)) u := Int.mul_pos d0.1 d1.1
  have hs := sum_red (a := t (2 * s)) (b := t (2 * s + 1) - t (2 * s)) hu.1
  rw [show t (2 * s) + (t (2 * s + 1) - t (2 * s)) = t (2 * s + 1) by omega] at hs
  have hll := low_le hp hu.1 (show 0 < t (2 * s + 1) by omega) hs
  unfold ptN ptD
  rw [if_neg (by omega), if_neg (by omega), show (2 * s + 1) / 2 = s by omega, e1, e2, e3, e4]
  omega
theorem WPL_step {st : Int} {bN bD lN lD : Int → Int} {a b c d : Int} (h : WPL st bN bD lN lD) (ha : 0 ≤ a ∧ a ≤ 100000) (hb : 0 < b ∧ b ≤ 1000) (hc : 0 < c ∧ c ≤ 100000) (hd : 0 < d ∧ d ≤ 1000) : WPL (st + 1) (up1 bN st a) (up1 bD st b) (up1 lN st c) (up1 lD st d) := by
  intro s s1 s2
  by_cases e : s = st
  · subst e
    have h1 : 0 < b * d ∧ b * d ≤ 1000000 := ⟨Int.mul_pos hb.1 hd.1, by
      have x1 : b * d ≤ 1000 * d := Int.mul_le_mul_of_nonneg_right hb.2 (by omega)
      omega⟩
    have h2 : 0 ≤ a * d ∧ a * d ≤ 100000000 := ⟨Int.mul_nonneg ha.1 (by omega), by
      have x1 : a * d ≤ 100000 * d := Int.mul_le_mul_of_nonneg_right ha.2 (by omega)
      omega⟩
    have h3 : 0 ≤ c * b ∧ c * b ≤ 100000000 := ⟨Int.mul_nonneg (by omega) (by omega), by
      have x1 : c * b ≤ 100000 * b := Int.mul_le_mul_of_nonneg_right hc.2 (by omega)
      omega⟩
    have h4 := nN_bd (n := a * d + c * b) (q := b * d) (B := 200000000) h1.1 (by omega)
    have h5 := nD_pos (n := a * d + c * b) h1.1
    unfold ptN ptD
    rw [if_neg (by omega), if_neg (by omega), show (2 * s + 1) / 2 = s by omega, up1_eq, up1_eq, up1_eq, up1_eq]
    omega
  · have := h s s1 (by omega)
    unfold ptN ptD at this ⊢
    rw [if_neg (by omega), if_neg (by omega), show (2 * s + 1) / 2 = s by omega] at this ⊢
    rw [up1_ne _ _ e, up1_ne _ _ e, up1_ne _ _ e, up1_ne _ _ e]
    exact this
theorem WPL_c {st : Int} {bN bD lN lD bN' bD' lN' lD' : Int → Int} (h : WPL st bN bD lN lD) (hc : ∀ s, 0 ≤ s → s < st → bN' s = bN s ∧ bD' s = bD s ∧ lN' s = lN s ∧ lD' s = lD s) : WPL st bN' bD' lN' lD' := by
  intro s s1 s2
  obtain ⟨c1, c2, c3, c4⟩ := hc s s1 s2
  have := h s s1 s2
  unfold ptN ptD at this ⊢
  rw [if_neg (by omega), if_neg (by omega), show (2 * s + 1) / 2 = s by omega] at this ⊢
  rw [c1, c2, c3, c4]
  exact this
theorem pt_c {st : Int} {bN bD lN lD bN' bD' lN' lD' : Int → Int} (hc : ∀ s, 0 ≤ s → s < st → bN' s = bN s ∧ bD' s = bD s ∧ lN' s = lN s ∧ lD' s = lD s) {p : Int} (h1 : 0 ≤ p) (h2 : p < 2 * st) : ptN bN' bD' lN' lD' p = ptN bN bD lN lD p ∧ ptD bN' bD' lN' lD' p = ptD bN bD lN lD p := by
  obtain ⟨c1, c2, c3, c4⟩ := hc (p / 2) (by omega) (by omega)
  unfold ptN ptD
  rw [c1, c2, c3, c4]
  exact ⟨rfl, rfl⟩
