/-! The reference: units and times. -/
def joinF (u n d : Int) : Option Int := if 10000 * d < n then none else if u / (Int.gcd u d : Int) * d ≤ 100000 then some (u / (Int.gcd u d : Int) * d) else none
theorem joinF_some {u n d v : Int} (hu : 0 < u ∧ u ≤ 100000) (hd : 0 < d) (h : joinF u n d = some v) : (0 < v ∧ v ≤ 100000) ∧ n ≤ 10000 * d ∧ u ∣ v ∧ d ∣ v := by
  unfold joinF at h
  split at h
  · cases h
  · split at h
    · have e : u / (Int.gcd u d : Int) * d = v := Option.some.inj h
      have hg := gcd_pos' (n := u) hd
      have hq : 0 < u / (Int.gcd u d : Int) := Int.ediv_pos_of_pos_of_dvd hu.1 (by omega) (Int.gcd_dvd_left _ _)
      have hv : 0 < u / (Int.gcd u d : Int) * d := Int.mul_pos hq hd
      refine ⟨by omega, by omega, ?_, ⟨u / (Int.gcd u d : Int), by rw [← e, Int.mul_comm]⟩⟩
      obtain ⟨k, hk⟩ := Int.gcd_dvd_right (a := u) (b := d)
      refine ⟨k, ?_⟩
      have e2 : u / (Int.gcd u d : Int) * (Int.gcd u d : Int) = u := Int.ediv_mul_cancel (Int.gcd_dvd_left _ _)
      rw [← e]
      calc u / (Int.gcd u d : Int) * d = u / (Int.gcd u d : Int) * ((Int.gcd u d : Int) * k) := congrArg _ hk
        _ = u * k := by rw [← Int.mul_assoc, e2]
    · cases h
def unitF (lN lD gN gD : Int → Int) : Nat → Int → Int → Option Int
  | 0, _, u => some u
  | n + 1, s, u => (joinF u (lN s) (lD s)).bind (fun u1 => if gD s = 0 then unitF lN lD gN gD n (s + 1) u1 else (joinF u1 (gN s) (gD s)).bind (fun u2 => unitF lN lD gN gD n (s + 1) u2))
/-- the bounds of the steps below m are such that the parts stay small -/
def WB (m : Int) (lN lD gN gD : Int → Int) : Prop := ∀ s, 0 ≤ s → s < m → (0 < lN s ∧ lN s ≤ 100000000000000 ∧ 0 < lD s ∧ lD s ≤ 1000000000000) ∧ (0 ≤ gD s ∧ gD s ≤ 1000000000000) ∧ (¬ gD s = 0 → -100000000000000 ≤ gN s ∧ gN s ≤ 100000000000000)
theorem unitF_some {m : Int} {lN lD gN gD : Int → Int} (hb : WB m lN lD gN gD) : ∀ (n : Nat) (s u v : Int), s + n = m → 0 ≤ s → 0 < u ∧ u ≤ 100000 → unitF lN lD gN gD n s u = some v → (0 < v ∧ v ≤ 100000) ∧ u ∣ v ∧ ∀ r, s ≤ r → r < m → (lN r ≤ 10000 * lD r ∧ lD r ∣ v) ∧ (¬ gD r = 0 → gN r ≤ 10000 * gD r ∧ gD r ∣ v) := by
  intro n
  induction n with
  | zero =>
    intro s u v hs h0 hu h
    rw [unitF] at h
    cases h
    exact ⟨hu, Int.dvd_refl _, fun r z1 z2 => by omega⟩
  | succ n ih =>
    intro s u v hs h0 hu h
    rw [unitF] at h
    obtain ⟨b1, b2, b3⟩ := hb s h0 (by omega)
    cases hj : joinF u (lN s) (lD s) with
    | none => rw [hj] at h; cases h
    | some u1 =>
      rw [hj, Option.bind_some] at h
      obtain ⟨j1, j2, j3, j4⟩ := joinF_some hu b1.2.2.1 hj
      by_cases hg : gD s = 0
      · rw [if_pos hg] at h
        obtain ⟨i1, i2, i3⟩ := ih (s + 1) u1 v (by omega) (by omega) j1 h
        refine ⟨i1, Int.dvd_trans j3 i2, fun r z1 z2 => ?_⟩
        by_cases hr : r = s
        · subst hr
          exact ⟨⟨j2, Int.dvd_trans j4 i2⟩, fun z => absurd hg z⟩
        · exact i3 r (by omega) z2
      · rw [if_neg hg] at h
        cases hj2 : joinF u1 (gN s) (gD s) with
        | none => rw [hj2] at h; cases h
        | some u2 =>
          rw [hj2, Option.bind_some] at h
          obtain ⟨k1, k2, k3, k4⟩ := joinF_some j1 (by omega) hj2
          obtain ⟨i1, i2, i3⟩ := ih (s + 1) u2 v (by omega) (by omega) k1 h
          refine ⟨i1, Int.dvd_trans j3 (Int.dvd_trans k3 i2), fun r z1 z2 => ?_⟩
          by_cases hr : r = s
          · subst hr
            exact ⟨⟨j2, Int.dvd_trans j4 (Int.dvd_trans k3 i2)⟩, fun _ => ⟨k2, Int.dvd_trans k4 i2⟩⟩
          · exact i3 r (by omega) z2
/-- the unit of all bounds -/
def unitA (eN eD m : Int) (lN lD gN gD : Int → Int) : Option Int := (joinF 1 eN eD).bind (fun u => unitF lN lD gN gD m.toNat 0 u)
theorem unit_bd {n d u : Int} (hn : 0 ≤ n) (h : n ≤ 10000 * d) (hd : 0 < d) (hu : 0 < u ∧ u ≤ 100000) : 0 ≤ n * (u / d) ∧ n * (u / d) ≤ 1000000000 := by
  have h0 : 0 ≤ u / d := Int.ediv_nonneg (by omega) (by omega)
  have h1 : n * (u / d) ≤ 10000 * d * (u / d) := Int.mul_le_mul_of_nonneg_right h h0
  have h2 : d * (u / d) ≤ u := Int.mul_ediv_self_le (by omega)
  rw [Int.mul_assoc] at h1
  exact ⟨Int.mul_nonneg hn h0, by omega⟩
theorem joinF_c {n d : Int} : 0 < cmpF n d 10000 1 ↔ 10000 * d < n := by
  unfold cmpF
  split
  · omega
  · split <;> omega
/-- times are lifted -/
noncomputable def lft (t : Int → Int) (p v : Int) : Int → Int := up1 t p (if t p < v then v else t p)
theorem lf_no {t : Int → Int} {p v : Int} (h : ¬ t p < v) : lft t p v = t := by
  unfold lft
  rw [if_neg h]
  funext j
  by_cases hj : j = p
  · rw [hj, up1_eq]
  · rw [up1_ne _ _ hj]
theorem lf_yes {t : Int → Int} {p v : Int} (h : t p < v) : lft t p v = up1 t p v := by
  unfold lft
  rw [if_pos h]
theorem lf_le (t : Int → Int) (p v j : Int) : t j ≤ lft t p v j := by
  unfold lft
  by_cases hj : j = p
  · rw [hj, up1_eq]; split <;> omega
  · rw [up1_ne _ _ hj]; omega
theorem lf_ge (t : Int → Int) (p v : Int) : v ≤ lft t p v p := by
  unfold lft
  rw [up1_eq]
  split <;> omega
theorem lf_ub {t u : Int → Int} {p v : Int} (h : ∀ j, t j ≤ u j) (hv : v ≤ u p) (j : Int) : lft t p v j ≤ u j := by
  unfold lft
  by_cases hj : j = p
  · rw [hj, up1_eq]
    have := h p
    split <;> omega
  · rw [up1_ne _ _ hj]; exact h j
def LInv (w : Int) (U : (Int → Int) → Prop) (t0 t : Int → Int) (A : Prop) (b : Int) : Prop := (∀ p, t0 p ≤ t p) ∧ (A ↔ ¬ t = t0) ∧ (∀ u, U u → (∀ p, t0 p ≤ u p) → ∀ p, t p ≤ u p) ∧ (∀ p, 0 ≤ t p ∧ t p ≤ b) ∧ (∀ p, ¬ (0 ≤ p ∧ p < w) → t p = t0 p)
theorem LInv.lf {U : (Int → Int) → Prop} {t0 t : Int → Int} {A : Prop} {w b b1 p v : Int} (h : LInv w U t0 t A b) (hp : 0 ≤ p ∧ p < w) (hv : ∀ u, U u → (∀ x, t x ≤ u x) → v ≤ u p) (hb : b ≤ b1) (hvb : v ≤ b1) : LInv w U t0 (lft t p v) (A ∨ t p < v) b1 := by
  obtain ⟨h1, h2, h3, h4, h5⟩ := h
  refine ⟨fun j => Int.le_trans (h1 j) (lf_le _ _ _ _), ?_, fun u hu ht => lf_ub (h3 u hu ht) (hv u hu (h3 u hu ht)), fun j => ?_, fun j hj => by
    unfold lft
    have hjp : ¬ j = p := by omega
    rw [up1_ne _ _ hjp]
    exact h5 j hj⟩
  · constructor
    · rintro (hA | hA) he
      · refine h2.mp hA (funext (fun j => ?_))
        have := lf_le t p v j
        rw [he] at this
        have := h1 j
        omega
      · have a1 := lf_ge t p v
        rw [he] at a1
        have := h1 p
        omega
    · intro he
      by_cases hA : A
      · exact Or.inl hA
      · have e : t = t0 := Classical.byContradiction (fun z => hA (h2.mpr z))
        refine Or.inr (Classical.byContradiction (fun z => he ?_))
        rw [lf_no z, e]
  · have := lf_le t p v j
    have := h4 j
    have := lf_ub (t := t) (p := p) (u := fun _ => b1) (fun j => by have := h4 j; omega) hvb j
    omega
theorem LInv.mono {U : (Int → Int) → Prop} {t0 t : Int → Int} {A : Prop} {w b b1 : Int} (h : LInv w U t0 t A b) (hb : b ≤ b1) : LInv w U t0 t A b1 := ⟨h.1, h.2.1, h.2.2.1, fun p => by have := h.2.2.2.1 p; omega, h.2.2.2.2⟩
noncomputable def wgt (I : Int → Int → Prop) (E p q : Int) : Int := @ite _ (I p q) (Classical.propDecidable _) E 0
theorem wgt_b {I : Int → Int → Prop} {E p q : Int} (h : 0 ≤ E ∧ E ≤ 1000000000) : 0 ≤ wgt I E p q ∧ wgt I E p q ≤ 1000000000 := by
  unfold wgt
  split <;> omega
/-- what the times t must keep to, seen from the times t0 -/
def consR (m R : Int) (row : Int → Int) (I : Int → Int → Prop) (E : Int) (L : Int → Int) (has : Int → Prop) (G : Int → Int) (t0 t : Int → Int) : Prop := (∀ i k, 0 ≤ i → i < k → k < R → t0 (row i) + wgt I E (row i) (row k) ≤ t (row k)) ∧ (∀ s, 0 ≤ s → s < m → t0 (2 * s) + L s ≤ t (2 * s + 1)) ∧ (∀ s, 0 ≤ s → s < m → has s → t0 (2 * s + 1) - G s ≤ t (2 * s))
def Sol (m R : Int) (row : Int → Int) (I : Int → Int → Prop) (E : Int) (L : Int → Int) (has : Int → Prop) (G : Int → Int) (u : Int → Int) : Prop := (∀ p, 0 ≤ u p) ∧ consR m R row I E L has G u u
def sumI (u : Int → Int) : Nat → Int
  | 0 => 0
  | n + 1 => sumI u n + u n
theorem sumI_le {u v : Int → Int} (h : ∀ p, u p ≤ v p) : ∀ n, sumI u n ≤ sumI v n := by
  intro n
  induction n with
  | zero => exact Int.le_refl _
  | succ n ih =>
    unfold sumI
    have := h n
    omega
theorem sumI_lt {u v : Int → Int} (h : ∀ p, u p ≤ v p) {p : Int} (h0 : 0 ≤ p) (hp : u p < v p) : ∀ n : Nat, p < n → sumI u n < sumI v n := by
  intro n
  induction n with
  | zero => intro hn; omega
  | succ n ih =>
    intro hn
    unfold sumI
    by_cases e : p = n
    · subst e
      have := sumI_le h n
      omega
    · have := ih (by omega)
      have := h n
      omega
theorem sumI_nn {u : Int → Int} (h : ∀ p, 0 ≤ u p) : ∀ n, 0 ≤ sumI u n := by
  intro n
  induction n with
  | zero => exact Int.le_refl _
  | succ n ih =>
    unfold sumI
    have := h n
    omega
def MinU (U : (Int → Int) → Prop) (n : Nat) (u : Int → Int) : Prop := U u ∧ ∀ v, U v → sumI u n ≤ sumI v n
theorem MinU_ex {U : (Int → Int) → Prop} (n : Nat) (hU : ∀ u, U u → ∀ p, 0 ≤ u p) : ∀ (k : Nat) (u : Int → Int), U u → sumI u n ≤ k → ∃ v, MinU U n v := by
  intro k
  induction k with
  | zero =>
    intro u hu hk
    exact ⟨u, hu, fun v hv => by have := sumI_nn (hU v hv) n; omega⟩
  | succ k ih =>
    intro u hu hk
    by_cases h : ∃ v, U v ∧ sumI v n ≤ k
    · obtain ⟨v, h1, h2⟩ := h
      exact ih v h1 h2
    · exact ⟨u, hu, fun v hv => by
        have : ¬ sumI v n ≤ k := fun z => h ⟨v, hv, z⟩
        omega⟩
/-- one less where the times are not yet the least ones -/
noncomputable def less1 (n : Nat) (Q : Int → Prop) (u : Int → Int) : Int → Int := fun p => @ite _ (0 ≤ p ∧ p < n ∧ Q p) (Classical.propDecidable _) (u p - 1) (u p)
theorem less1_le {n : Nat} {Q : Int → Prop} {u : Int → Int} (p : Int) : less1 n Q u p ≤ u p ∧ u p - 1 ≤ less1 n Q u p := by
  unfold less1
  split <;> omega
theorem less1_in {n : Nat} {Q : Int → Prop} {u : Int → Int} {p : Int} (h : 0 ≤ p ∧ p < n ∧ Q p) : less1 n Q u p = u p - 1 := by
  unfold less1
  rw [if_pos h]
theorem less1_out {n : Nat} {Q : Int → Prop} {u : Int → Int} {p : Int} (h : ¬ (0 ≤ p ∧ p < n ∧ Q p)) : less1 n Q u p = u p := by
  unfold less1
  rw [if_neg h]
/-- an edge stays right where its end is still lifted or its begin goes down too -/
theorem less1_edge {n : Nat} {Q : Int → Prop} {u : Int → Int} {q p w : Int} (h : u q + w ≤ u p) (h2 : (0 ≤ p ∧ p < n ∧ Q p) → ¬ (0 ≤ q ∧ q < n ∧ Q q) → u q + w ≤ u p - 1) : less1 n Q u q + w ≤ less1 n Q u p := by
  by_cases hp : 0 ≤ p ∧ p < n ∧ Q p
  · by_cases hq : 0 ≤ q ∧ q < n ∧ Q q
    · rw [less1_in hp, less1_in hq]; omega
    · rw [less1_in hp, less1_out hq]; exact h2 hp hq
  · have := less1_le (n := n) (Q := Q) (u := u) q
    rw [less1_out hp]; omega
section BF
variable {m R : Int} {row : Int → Int} {I : Int → Int → Prop} {E : Int} {L : Int → Int} {has : Int → Prop} {G : Int → Int}
/-- a round makes one more time a least one -/
theorem bf_step {n : Nat} (hn : (n : Int) = 2 * m) (hrow : ∀ k, 0 ≤ k → k < R → 0 ≤ row k ∧ row k < 2 * m) {u t t1 : Int → Int} (hu : MinU (Sol m R row I E L has G) n u) (h1 : ∀ p, 0 ≤ t1 p) (h2 : ∀ p, t1 p ≤ u p) (hc : consR m R row I E L has G t t1) (hne : ∃ p : Int, 0 ≤ p ∧ p < n ∧ ¬ t p = u p) : ∃ p : Int, 0 ≤ p ∧ p < n ∧ ¬ t p = u p ∧ t1 p = u p := by
  refine Classical.byContradiction (fun hno => ?_)
  have hno : ∀ p : Int, 0 ≤ p → p < n → ¬ t p = u p → ¬ t1 p = u p := fun p z1 z2 z3 z4 => hno ⟨p, z1, z2, z3, z4⟩
  have hlt : ∀ p, (0 ≤ p ∧ p < (n : Int) ∧ ¬ t p = u p) → t1 p ≤ u p - 1 := fun p z => by
    have := hno p z.1 z.2.1 z.2.2
    have := h2 p
    omega
  obtain ⟨⟨s1, s2, s3, s4⟩, hmin⟩ := hu
  have hfin : ∀ {q : Int}, 0 ≤ q → q < 2 * m → ¬ (0 ≤ q ∧ q < (n : Int) ∧ ¬ t q = u q) → t q = u q := fun {q} z1 z2 z => Classical.byContradiction (fun y => z ⟨z1, by omega, y⟩)
  have hS : Sol m R row I E L has G (less1 n (fun p => ¬ t p = u p) u) := by
    refine ⟨fun p => ?_, fun i k z1 z2 z3 => ?_, fun s z1 z2 => ?_, fun s z1 z2 z3 => ?_⟩
    · by_cases hp : 0 ≤ p ∧ p < (n : Int) ∧ ¬ t p = u p
      · rw [less1_in hp]
        have := hlt p hp
        have := h1 p
        omega
      · rw [less1_out hp]
        exact s1 p
    · refine less1_edge (s2 i k z1 z2 z3) (fun y1 y2 => ?_)
      have r1 := hrow i z1 (by omega)
      have := hfin r1.1 r1.2 y2
      have := hc.1 i k z1 z2 z3
      have := hlt _ y1
      omega
    · refine less1_edge (s3 s z1 z2) (fun y1 y2 => ?_)
      have := hfin (by omega) (by omega) y2
      have := hc.2.1 s z1 z2
      have := hlt _ y1
      omega
    · have e := s4 s z1 z2 z3
      have := less1_edge (n := n) (Q := fun p => ¬ t p = u p) (u := u) (q := 2 * s + 1) (p := 2 * s) (w := - G s) (by omega) (fun y1 y2 => by
        have := hfin (q := 2 * s + 1) (by omega) (by omega) y2
        have := hc.2.2 s z1 z2 z3
        have := hlt _ y1
        omega)
      omega
  obtain ⟨p, p1, p2, p3⟩ := hne
  have h4 := hmin _ hS
  have h5 := sumI_lt (u := less1 n (fun p => ¬ t p = u p) u) (v := u) (fun p => (less1_le p).1) p1 (by rw [less1_in ⟨p1, p2, p3⟩]; omega) n p2
  omega
end BF
theorem nrm_lI (x : Int) : lI (lI x).toInt = lI x := Int64.ofInt_toInt _
theorem nrm_b (x : Int) : -9223372036854775808 ≤ (lI x).toInt ∧ (lI x).toInt < 9223372036854775808 := ⟨Int64.le_toInt _, Int64.toInt_lt _⟩
theorem nrm_in {x : Int} (h : -9223372036854775808 ≤ x ∧ x < 9223372036854775808) : (lI x).toInt = x := Int64.toInt_ofInt_of_le h.1 h.2
def nrm (f : Int → Int) : Int → Int := fun k => (lI (f k)).toInt
theorem joinF_yes {u n d v : Int} (h : joinF u n d = some v) : ¬ 10000 * d < n ∧ u / (Int.gcd u d : Int) * d ≤ 100000 ∧ u / (Int.gcd u d : Int) * d = v := by
  unfold joinF at h
  split at h
  · cases h
  · split at h
    · exact ⟨by assumption, by assumption, Option.some.inj h⟩
    · cases h
theorem joinF_no {u n d : Int} (h : joinF u n d = none) : 10000 * d < n ∨ (¬ 10000 * d < n ∧ 100000 < u / (Int.gcd u d : Int) * d) := by
  unfold joinF at h
  split at h
  · exact Or.inl (by assumption)
  · split at h
    · cases h
    · exact Or.inr ⟨by assumption, by omega⟩
theorem wgt_y {I : Int → Int → Prop} {E p q : Int} (h : I p q) : wgt I E p q = E := by unfold wgt; rw [if_pos h]
theorem wgt_n {I : Int → Int → Prop} {E p q : Int} (h : ¬ I p q) : wgt I E p q = 0 := by unfold wgt; rw [if_neg h]
/-- no solution is left when the rounds are over -/
theorem bf_none {U : (Int → Int) → Prop} {n : Nat} (hU : ∀ u, U u → ∀ p, 0 ≤ u p) {A : (Int → Int) → Int → Prop} (h : ∀ u, MinU U n u → n + 1 ≤ cntP (A u) n) : ¬ ∃ u, U u := by
  rintro ⟨u, hu⟩
  obtain ⟨v, hv⟩ := MinU_ex n hU (sumI u n).toNat u hu (by have := sumI_nn (hU u hu) n; omega)
  have := h v hv
  have := cntP_b (A v) n
  omega
theorem bf_cnt {m R : Int} {row : Int → Int} {I : Int → Int → Prop} {E : Int} {L : Int → Int} {has : Int → Prop} {G : Int → Int} {n : Nat} (hn : (n : Int) = 2 * m) (hrow : ∀ k, 0 ≤ k → k < R → 0 ≤ row k ∧ row k < 2 * m) {u t t1 : Int → Int} {b : Int} {A : Prop} {j : Nat} (hu : MinU (Sol m R row I E L has G) n u) (h0 : ∀ p, t p ≤ u p) (hi : LInv (2 * m) (Sol m R row I E L has G) t t1 A b) (hc : consR m R row I E L has G t t1) (hA : A) (hj : j ≤ cntP (fun p => t p = u p) n) : (∀ p, t1 p ≤ u p) ∧ j + 1 ≤ cntP (fun p => t1 p = u p) n := by
  have h1 := hi.2.2.1 u hu.1 h0
  refine ⟨h1, ?_⟩
  have hne : ∃ p : Int, 0 ≤ p ∧ p < n ∧ ¬ t p = u p := by
    refine Classical.byContradiction (fun z => hi.2.1.mp hA (funext (fun p => ?_)))
    by_cases hp : 0 ≤ p ∧ p < (n : Int)
    · have e : t p = u p := Classical.byContradiction (fun y => z ⟨p, hp.1, hp.2, y⟩)
      have := h1 p
      have := hi.1 p
      omega
    · exact hi.2.2.2.2 p (fun z => hp ⟨z.1, by omega⟩)
  obtain ⟨p, p1, p2, p3, p4⟩ := bf_step hn hrow hu (fun p => (hi.2.2.2.1 p).1) h1 hc hne
  have := cntP_lt (A := fun p => t1 p = u p) (B := fun p => t p = u p) p1 p4 p3 n p2 (fun q _ _ z => by
    have := h1 q
    have := hi.1 q
    omega)
  omega

theorem nrm_aL (n : Nat) (f : Int → Int) : aL n (nrm f) = aL n f := by
  unfold aL nrm
  exact List.map_congr_left (fun k _ => by rw [nrm_lI])
section R54
variable {pre post mem : AM}
variable {code amountN amountD momentN momentD epsilonN epsilonD actions steps rows tried triedRows unit point judged fault faultPoint outN outD : Int}
variable {firstN firstD wishes wants wantN wantD needs needTime needOf needHow needN needD changes changeTime changeOf changeHow changeN changeD lastOf lastN lastD stepAction startN startD lengthN lengthD row triedAction triedRow times numN numD oldN oldD toldN toldD pointN pointD leastN leastD greatestN greatestD events : Int → Int}
variable {firstFacts facts oldFacts toldFacts gone now : Int → Prop}
theorem c_Mo_joins_y {d : Nat}  (hp : pre.length = 168) (hu : 0 < unit ∧ unit ≤ 100000) {n q v : Int} (hn : -100000000000000 ≤ n ∧ n ≤ 100000000000000) (hd : 0 < q ∧ q ≤ 1000000000000) (h : joinF unit n q = some v) : Cg false (d + 2) m_Mo_joins [.ref 168, .long (lI n), .long (lI q)] (MR pre code amountN amountD momentN momentD epsilonN epsilonD firstFacts firstN firstD wishes wants wantN wantD actions needs needTime needOf needHow needN needD changes changeTime changeOf changeHow changeN changeD lastOf lastN lastD steps stepAction startN startD lengthN lengthD rows row tried triedAction triedRows triedRow times unit facts numN numD oldFacts oldN oldD point judged fault faultPoint toldFacts toldN toldD outN outD pointN pointD gone now leastN leastD greatestN greatestD events post) (.inl (some (.int (bP True)))) (MR pre code amountN amountD momentN momentD epsilonN epsilonD firstFacts firstN firstD wishes wants wantN wantD actions needs needTime needOf needHow needN needD changes changeTime changeOf changeHow changeN changeD lastOf lastN lastD steps stepAction startN startD lengthN lengthD rows row tried triedAction triedRows triedRow times v facts numN numD oldFacts oldN oldD point judged fault faultPoint toldFacts toldN toldD outN outD pointN pointD gone now leastN leastD greatestN greatestD events post) := by
  have c0 := cmpF_b n q 10000 1
  have c1 := joinF_c (n := n) (d := q)
  have hg := gcd_pos' (n := unit) hd.1
  have hg2 : (Int.gcd unit q : Int) ≤ unit := Int.le_of_dvd hu.1 (Int.gcd_dvd_left _ _)
  have q0 : 0 ≤ unit / (Int.gcd unit q : Int) := Int.ediv_nonneg (by omega) (by omega)
  have q1 : unit / (Int.gcd unit q : Int) ≤ unit := Int.ediv_le_self _ (by omega)
  have hm := mul_bd (a := unit / (Int.gcd unit q : Int)) (b := q) (A := 100000) (B := 1000000000000) (by omega) (by omega)
  obtain ⟨j1, j2, j3⟩ := joinF_yes h
  subst j3
  have c2 : ¬ 0 < cmpF n q 10000 1 := fun z => j1 (c1.mp z)
  refine Cg.of (Nat.le_of_ble_eq_true rfl) ?_
  change Rg _ _ _ _ 0 [(0, .ref 168), (1, .long (lI n)), (3, .long (lI q))] [] _ _ _
  refine Rg.step 1 F_Mo_joins_0 rfl (fun _ => rfl) ?_
  refine Rg.step 2 F_Mo_joins_1 rfl (fun _ => rfl) ?_
  refine Rg.ldc2 (n := 10000) 5 F_Mo_joins_2 rfl rJ_26_356 rfl ?_
  refine Rg.lcn (n := 1) 6 F_Mo_joins_5 rfl rfl ?_
  refine Rg.call 9 F_Mo_joins_6 rfl (one_S (by decide +kernel) rM_26_264 (by decide) (by simp) rfl rfl) (Nat.le_of_ble_eq_true rfl) (Cg.any (c_Mo_order (by omega) (by omega) (by omega) (by omega) (by omega) (by omega))) ?_
  refine Rg.ifleI 14 12 F_Mo_joins_9 rfl rfl (by omega) (fun _ => ?_) (fun h9 => by omega)
  refine Rg.step 15 F_Mo_joins_14 rfl (fun _ => rfl) ?_
  refine Rg.step 16 F_Mo_joins_15 rfl (fun _ => rfl) ?_
  refine Rg.getf 19 F_Mo_joins_16 rfl rF_26_358 (gM hp) rfl ?_
  refine Rg.step 20 F_Mo_joins_19 rfl (fun _ => rfl) ?_
  refine Rg.getf 23 F_Mo_joins_20 rfl rF_26_358 (gM hp) rfl ?_
  refine Rg.step 24 F_Mo_joins_23 rfl (fun _ => rfl) ?_
  refine Rg.call 27 F_Mo_joins_24 rfl (one_S (by decide +kernel) rM_26_185 (by decide) (by simp) rfl rfl) (Nat.le_of_ble_eq_true rfl) (Cg.any (c_Mo_common (by omega) (by omega))) ?_
  refine Rg.divLp 28 F_Mo_joins_27 rfl (by omega) (by omega) ?_
  refine Rg.step 29 F_Mo_joins_28 rfl (fun _ => rfl) ?_
  refine Rg.mulL 30 F_Mo_joins_29 rfl ?_
  refine Rg.put 33 F_Mo_joins_30 rfl rF_26_358 (gM hp) (by decide) (Nat.le_of_ble_eq_true rfl) (Or.inl rfl) rfl (sM_unit hp) ?_
  refine Rg.step 34 F_Mo_joins_33 rfl (fun _ => rfl) ?_
  refine Rg.getf 37 F_Mo_joins_34 rfl rF_26_358 (gM hp) rfl ?_
  refine Rg.ldc2 (n := 100000) 40 F_Mo_joins_37 rfl rJ_26_361 rfl ?_
  refine Rg.lcgt 48 44 F_Mo_joins_40 F_Mo_joins_41 rfl rfl (by omega) (by omega) (fun h40 => by omega) (fun _ => ?_)
  refine Rg.step 45 F_Mo_joins_44 rfl (fun _ => rfl) ?_
  refine Rg.step 49 F_Mo_joins_45 rfl (fun _ => rfl) ?_
  exact Rg.ret1 F_Mo_joins_49 rfl trivial rfl
theorem c_Mo_joins_n {d : Nat} (hp : pre.length = 168) (hu : 0 < unit ∧ unit ≤ 100000) {n q : Int} (hn : -100000000000000 ≤ n ∧ n ≤ 100000000000000) (hd : 0 < q ∧ q ≤ 1000000000000) (h : joinF unit n q = none) : ∃ v, Cg false (d + 2) m_Mo_joins [.ref 168, .long (lI n), .long (lI q)] (MR pre code amountN amountD momentN momentD epsilonN epsilonD firstFacts firstN firstD wishes wants wantN wantD actions needs needTime needOf needHow needN needD changes changeTime changeOf changeHow changeN changeD lastOf lastN lastD steps stepAction startN startD lengthN lengthD rows row tried triedAction triedRows triedRow times unit facts numN numD oldFacts oldN oldD point judged fault faultPoint toldFacts toldN toldD outN outD pointN pointD gone now leastN leastD greatestN greatestD events post) (.inl (some (.int (bP False)))) (MR pre code amountN amountD momentN momentD epsilonN epsilonD firstFacts firstN firstD wishes wants wantN wantD actions needs needTime needOf needHow needN needD changes changeTime changeOf changeHow changeN changeD lastOf lastN lastD steps stepAction startN startD lengthN lengthD rows row tried triedAction triedRows triedRow times v facts numN numD oldFacts oldN oldD point judged fault faultPoint toldFacts toldN toldD outN outD pointN pointD gone now leastN leastD greatestN greatestD events post) := by
  have c0 := cmpF_b n q 10000 1
  have c1 := joinF_c (n := n) (d := q)
  have hg := gcd_pos' (n := unit) hd.1
  have hg2 : (Int.gcd unit q : Int) ≤ unit := Int.le_of_dvd hu.1 (Int.gcd_dvd_left _ _)
  have q0 : 0 ≤ unit / (Int.gcd unit q : Int) := Int.ediv_nonneg (by omega) (by omega)
  have q1 : unit / (Int.gcd unit q : Int) ≤ unit := Int.ediv_le_self _ (by omega)
  have hm := mul_bd (a := unit / (Int.gcd unit q : Int)) (b := q) (A := 100000) (B := 1000000000000) (by omega) (by omega)
  rcases joinF_no h with j | ⟨j1, j2⟩
  · have c2 := c1.mpr j
    refine ⟨unit, ?_⟩
    refine Cg.of (Nat.le_of_ble_eq_true rfl) ?_
    change Rg _ _ _ _ 0 [(0, .ref 168), (1, .long (lI n)), (3, .long (lI q))] [] _ _ _
    refine Rg.step 1 F_Mo_joins_0 rfl (fun _ => rfl) ?_
    refine Rg.step 2 F_Mo_joins_1 rfl (fun _ => rfl) ?_
    refine Rg.ldc2 (n := 10000) 5 F_Mo_joins_2 rfl rJ_26_356 rfl ?_
    refine Rg.lcn (n := 1) 6 F_Mo_joins_5 rfl rfl ?_
    refine Rg.call 9 F_Mo_joins_6 rfl (one_S (by decide +kernel) rM_26_264 (by decide) (by simp) rfl rfl) (Nat.le_of_ble_eq_true rfl) (Cg.any (c_Mo_order (by omega) (by omega) (by omega) (by omega) (by omega) (by omega))) ?_
    refine Rg.ifleI 14 12 F_Mo_joins_9 rfl rfl (by omega) (fun h9 => by omega) (fun _ => ?_)
    refine Rg.step 13 F_Mo_joins_12 rfl (fun _ => rfl) ?_
    exact Rg.ret0 F_Mo_joins_13 rfl (fun z => z) rfl
  · have c2 : ¬ 0 < cmpF n q 10000 1 := fun z => j1 (c1.mp z)
    refine ⟨unit / (Int.gcd unit q : Int) * q, ?_⟩
    refine Cg.of (Nat.le_of_ble_eq_true rfl) ?_
    change Rg _ _ _ _ 0 [(0, .ref 168), (1, .long (lI n)), (3, .long (lI q))] [] _ _ _
    refine Rg.step 1 F_Mo_joins_0 rfl (fun _ => rfl) ?_
    refine Rg.step 2 F_Mo_joins_1 rfl (fun _ => rfl) ?_
    refine Rg.ldc2 (n := 10000) 5 F_Mo_joins_2 rfl rJ_26_356 rfl ?_
    refine Rg.lcn (n := 1) 6 F_Mo_joins_5 rfl rfl ?_
    refine Rg.call 9 F_Mo_joins_6 rfl (one_S (by decide +kernel) rM_26_264 (by decide) (by simp) rfl rfl) (Nat.le_of_ble_eq_true rfl) (Cg.any (c_Mo_order (by omega) (by omega) (by omega) (by omega) (by omega) (by omega))) ?_
    refine Rg.ifleI 14 12 F_Mo_joins_9 rfl rfl (by omega) (fun _ => ?_) (fun h9 => by omega)
    refine Rg.step 15 F_Mo_joins_14 rfl (fun _ => rfl) ?_
    refine Rg.step 16 F_Mo_joins_15 rfl (fun _ => rfl) ?_
    refine Rg.getf 19 F_Mo_joins_16 rfl rF_26_358 (gM hp) rfl ?_
    refine Rg.step 20 F_Mo_joins_19 rfl (fun _ => rfl) ?_
    refine Rg.getf 23 F_Mo_joins_20 rfl rF_26_358 (gM hp) rfl ?_
    refine Rg.step 24 F_Mo_joins_23 rfl (fun _ => rfl) ?_
    refine Rg.call 27 F_Mo_joins_24 rfl (one_S (by decide +kernel) rM_26_185 (by decide) (by simp) rfl rfl) (Nat.le_of_ble_eq_true rfl) (Cg.any (c_Mo_common (by omega) (by omega))) ?_
    refine Rg.divLp 28 F_Mo_joins_27 rfl (by omega) (by omega) ?_
    refine Rg.step 29 F_Mo_joins_28 rfl (fun _ => rfl) ?_
    refine Rg.mulL 30 F_Mo_joins_29 rfl ?_
    refine Rg.put 33 F_Mo_joins_30 rfl rF_26_358 (gM hp) (by decide) (Nat.le_of_ble_eq_true rfl) (Or.inl rfl) rfl (sM_unit hp) ?_
    refine Rg.step 34 F_Mo_joins_33 rfl (fun _ => rfl) ?_
    refine Rg.getf 37 F_Mo_joins_34 rfl rF_26_358 (gM hp) rfl ?_
    refine Rg.ldc2 (n := 100000) 40 F_Mo_joins_37 rfl rJ_26_361 rfl ?_
    refine Rg.lcgt 48 44 F_Mo_joins_40 F_Mo_joins_41 rfl rfl (by omega) (by omega) (fun _ => ?_) (fun h40 => by omega)
    refine Rg.step 49 F_Mo_joins_48 rfl (fun _ => rfl) ?_
    exact Rg.ret0 F_Mo_joins_49 rfl (fun z => z) rfl
theorem hus_out {d n0 : Nat} (hp : pre.length = 168) (wU : 0 ≤ tried ∧ tried ≤ 12) {k : Int} (hk : -2147483648 ≤ k ∧ k < 2147483648) {B : Prop} (hB : ¬ B) : Rg false d m_Mo_hasUnit n0 20 [(2, .int (iI k)), (1, .int (bP False)), (0, .ref 168)] [] (MR pre code amountN amountD momentN momentD epsilonN epsilonD firstFacts firstN firstD wishes wants wantN wantD actions needs needTime needOf needHow needN needD changes changeTime changeOf changeHow changeN changeD lastOf lastN lastD steps stepAction startN startD lengthN lengthD rows row tried triedAction triedRows triedRow times unit facts numN numD oldFacts oldN oldD point judged fault faultPoint toldFacts toldN toldD outN outD pointN pointD gone now leastN leastD greatestN greatestD events post) (.inl (some (.int (bP B)))) (MR pre code amountN amountD momentN momentD epsilonN epsilonD firstFacts firstN firstD wishes wants wantN wantD actions needs needTime needOf needHow needN needD changes changeTime changeOf changeHow changeN changeD lastOf lastN lastD steps stepAction startN startD lengthN lengthD rows row tried triedAction triedRows triedRow times unit facts numN numD oldFacts oldN oldD point judged fault faultPoint toldFacts toldN toldD outN outD pointN pointD gone now leastN leastD greatestN greatestD events post) := by
  refine Rg.step 21 F_Mo_hasUnit_20 rfl (fun _ => rfl) ?_
  refine Rg.step 22 F_Mo_hasUnit_21 rfl (fun _ => rfl) ?_
  refine Rg.getf 25 F_Mo_hasUnit_22 rfl rF_26_280 (gM hp) rfl ?_
  refine Rg.icgeI 93 28 F_Mo_hasUnit_25 rfl rfl (by omega) (by omega) (fun h25 => ?_) (fun h25 => ?_)
  · refine Rg.step 94 F_Mo_hasUnit_93 rfl (fun _ => rfl) ?_
    exact Rg.retP F_Mo_hasUnit_94 rfl ⟨False.elim, hB⟩ rfl
  · refine Rg.step 29 F_Mo_hasUnit_28 rfl (fun _ => rfl) ?_
    refine Rg.ifeqP 93 32 F_Mo_hasUnit_29 rfl rfl (fun _ => ?_) (fun h29 => absurd h29 (fun z => z))
    refine Rg.step 94 F_Mo_hasUnit_93 rfl (fun _ => rfl) ?_
    exact Rg.retP F_Mo_hasUnit_94 rfl ⟨False.elim, hB⟩ rfl
theorem hus_loop {d n0 : Nat} (hp : pre.length = 168) (wU : 0 ≤ tried ∧ tried ≤ 12) (hb : WB tried leastN leastD greatestN greatestD) : ∀ (n : Nat) (k u : Int), k + n = tried → 0 ≤ k → 0 < u ∧ u ≤ 100000 → ∃ u1, (∀ v, unitF leastN leastD greatestN greatestD n k u = some v → u1 = v) ∧ Rg false (d + 3) m_Mo_hasUnit n0 20 [(2, .int (iI k)), (1, .int (bP True)), (0, .ref 168)] [] (MR pre code amountN amountD momentN momentD epsilonN epsilonD firstFacts firstN firstD wishes wants wantN wantD actions needs needTime needOf needHow needN needD changes changeTime changeOf changeHow changeN changeD lastOf lastN lastD steps stepAction startN startD lengthN lengthD rows row tried triedAction triedRows triedRow times u facts numN numD oldFacts oldN oldD point judged fault faultPoint toldFacts toldN toldD outN outD pointN pointD gone now leastN leastD greatestN greatestD events post) (.inl (some (.int (bP (∃ v, unitF leastN leastD greatestN greatestD n k u = some v))))) (MR pre code amountN amountD momentN momentD epsilonN epsilonD firstFacts firstN firstD wishes wants wantN wantD actions needs needTime needOf needHow needN needD changes changeTime changeOf changeHow changeN changeD lastOf lastN lastD steps stepAction startN startD lengthN lengthD rows row tried triedAction triedRows triedRow times u1 facts numN numD oldFacts oldN oldD point judged fault faultPoint toldFacts toldN toldD outN outD pointN pointD gone now leastN leastD greatestN greatestD events post) := by
  intro n
  induction n with
  | zero =>
    intro k u hk hk2 hu
    refine ⟨u, fun v z => Option.some.inj z, ?_⟩
    refine Rg.step 21 F_Mo_hasUnit_20 rfl (fun _ => rfl) ?_
    refine Rg.step 22 F_Mo_hasUnit_21 rfl (fun _ => rfl) ?_
    refine Rg.getf 25 F_Mo_hasUnit_22 rfl rF_26_280 (gM hp) rfl ?_
    refine Rg.icgeI 93 28 F_Mo_hasUnit_25 rfl rfl (by omega) (by omega) (fun _ => ?_) (fun h25 => by omega)
    refine Rg.step 94 F_Mo_hasUnit_93 rfl (fun _ => rfl) ?_
    exact Rg.retP F_Mo_hasUnit_94 rfl ⟨fun _ => ⟨u, rfl⟩, fun _ => trivial⟩ rfl
  | succ n ih =>
    intro k u hk hk2 hu
    obtain ⟨b1, b2, b3⟩ := hb k hk2 (by omega)
    cases hj : joinF u (leastN k) (leastD k) with
    | none =>
      have hN : ¬ ∃ v, unitF leastN leastD greatestN greatestD (n + 1) k u = some v := by
        rintro ⟨v, hv⟩
        rw [unitF, hj] at hv
        cases hv
      obtain ⟨u1, hc⟩ := c_Mo_joins_n (d := d) (pre := pre) (post := post) (code := code) (amountN := amountN) (amountD := amountD) (momentN := momentN) (momentD := momentD) (epsilonN := epsilonN) (epsilonD := epsilonD) (firstFacts := firstFacts) (firstN := firstN) (firstD := firstD) (wishes := wishes) (wants := wants) (wantN := wantN) (wantD := wantD) (actions := actions) (needs := needs) (needTime := needTime) (needOf := needOf) (needHow := needHow) (needN := needN) (needD := needD) (changes := changes) (changeTime := changeTime) (changeOf := changeOf) (changeHow := changeHow) (changeN := changeN) (changeD := changeD) (lastOf := lastOf) (lastN := lastN) (lastD := lastD) (steps := steps) (stepAction := stepAction) (startN := startN) (startD := startD) (lengthN := lengthN) (lengthD := lengthD) (rows := rows) (row := row) (tried := tried) (triedAction := triedAction) (triedRows := triedRows) (triedRow := triedRow) (times := times) (unit := u) (facts := facts) (numN := numN) (numD := numD) (oldFacts := oldFacts) (oldN := oldN) (oldD := oldD) (point := point) (judged := judged) (fault := fault) (faultPoint := faultPoint) (toldFacts := toldFacts) (toldN := toldN) (toldD := toldD) (outN := outN) (outD := outD) (pointN := pointN) (pointD := pointD) (gone := gone) (now := now) (leastN := leastN) (leastD := leastD) (greatestN := greatestN) (greatestD := greatestD) (events := events) hp hu (n := leastN k) (q := leastD k) (by omega) (by omega) hj
      refine ⟨u1, fun v z => absurd ⟨v, z⟩ hN, ?_⟩
      refine Rg.step 21 F_Mo_hasUnit_20 rfl (fun _ => rfl) ?_
      refine Rg.step 22 F_Mo_hasUnit_21 rfl (fun _ => rfl) ?_
      refine Rg.getf 25 F_Mo_hasUnit_22 rfl rF_26_280 (gM hp) rfl ?_
      refine Rg.icgeI 93 28 F_Mo_hasUnit_25 rfl rfl (by omega) (by omega) (fun h25 => by omega) (fun _ => ?_)
      refine Rg.step 29 F_Mo_hasUnit_28 rfl (fun _ => rfl) ?_
      refine Rg.ifeqP 93 32 F_Mo_hasUnit_29 rfl rfl (fun h29 => absurd trivial h29) (fun _ => ?_)
      refine Rg.step 33 F_Mo_hasUnit_32 rfl (fun _ => rfl) ?_
      refine Rg.step 34 F_Mo_hasUnit_33 rfl (fun _ => rfl) ?_
      refine Rg.getf 37 F_Mo_hasUnit_34 rfl rF_26_163 (gM hp) rfl ?_
      refine Rg.step 38 F_Mo_hasUnit_37 rfl (fun _ => rfl) ?_
      refine Rg.lld 39 F_Mo_hasUnit_38 rfl (gR_leastN hp) (by omega) (by decide) ?_
      refine Rg.step 40 F_Mo_hasUnit_39 rfl (fun _ => rfl) ?_
      refine Rg.getf 43 F_Mo_hasUnit_40 rfl rF_26_166 (gM hp) rfl ?_
      refine Rg.step 44 F_Mo_hasUnit_43 rfl (fun _ => rfl) ?_
      refine Rg.lld 45 F_Mo_hasUnit_44 rfl (gR_leastD hp) (by omega) (by decide) ?_
      refine Rg.call 48 F_Mo_hasUnit_45 rfl (one_V rM_26_363 (by decide) (by simp) rfl rfl (gM hp) rfl) (Nat.le_of_ble_eq_true rfl) hc ?_
      refine Rg.ifeqP 85 51 F_Mo_hasUnit_48 rfl rfl (fun _ => ?_) (fun h48 => absurd h48 (fun z => z))
      refine Rg.cP0 (B := False) 86 F_Mo_hasUnit_85 rfl (fun z => z) ?_
      refine Rg.step 87 F_Mo_hasUnit_86 rfl (fun _ => rfl) ?_
      refine Rg.inc 90 F_Mo_hasUnit_87 rfl rfl (by decide) ?_
      refine Rg.step 20 F_Mo_hasUnit_90 rfl (fun _ => rfl) ?_
      exact Rg.weak (hus_out (k := k + 1) hp wU (by omega) hN) (by simp [lput1, lput2, Value.category, fi0, fi1, fi2, fi3] <;> first | rfl | exact ⟨rfl, rfl⟩) (by simp [lput1, lput2, Value.category, fi0, fi1, fi2, fi3] <;> first | rfl | exact ⟨rfl, rfl⟩)
    | some u1 =>
      have hc := c_Mo_joins_y (d := d) (pre := pre) (post := post) (code := code) (amountN := amountN) (amountD := amountD) (momentN := momentN) (momentD := momentD) (epsilonN := epsilonN) (epsilonD := epsilonD) (firstFacts := firstFacts) (firstN := firstN) (firstD := firstD) (wishes := wishes) (wants := wants) (wantN := wantN) (wantD := wantD) (actions := actions) (needs := needs) (needTime := needTime) (needOf := needOf) (needHow := needHow) (needN := needN) (needD := needD) (changes := changes) (changeTime := changeTime) (changeOf := changeOf) (changeHow := changeHow) (changeN := changeN) (changeD := changeD) (lastOf := lastOf) (lastN := lastN) (lastD := lastD) (steps := steps) (stepAction := stepAction) (startN := startN) (startD := startD) (lengthN := lengthN) (lengthD := lengthD) (rows := rows) (row := row) (tried := tried) (triedAction := triedAction) (triedRows := triedRows) (triedRow := triedRow) (times := times) (unit := u) (facts := facts) (numN := numN) (numD := numD) (oldFacts := oldFacts) (oldN := oldN) (oldD := oldD) (point := point) (judged := judged) (fault := fault) (faultPoint := faultPoint) (toldFacts := toldFacts) (toldN := toldN) (toldD := toldD) (outN := outN) (outD := outD) (pointN := pointN) (pointD := pointD) (gone := gone) (now := now) (leastN := leastN) (leastD := leastD) (greatestN := greatestN) (greatestD := greatestD) (events := events) hp hu (n := leastN k) (q := leastD k) (by omega) (by omega) hj
      have hu1 := (joinF_some hu b1.2.2.1 hj).1
      by_cases hg : greatestD k = 0
      · obtain ⟨u2, i1, ht⟩ := ih (k + 1) u1 (by omega) (by omega) hu1
        have he : unitF leastN leastD greatestN greatestD (n + 1) k u = unitF leastN leastD greatestN greatestD n (k + 1) u1 := by rw [unitF, hj, Option.bind_some, if_pos hg]
        rw [he]
        refine ⟨u2, i1, ?_⟩
        refine Rg.step 21 F_Mo_hasUnit_20 rfl (fun _ => rfl) ?_
        refine Rg.step 22 F_Mo_hasUnit_21 rfl (fun _ => rfl) ?_
        refine Rg.getf 25 F_Mo_hasUnit_22 rfl rF_26_280 (gM hp) rfl ?_
        refine Rg.icgeI 93 28 F_Mo_hasUnit_25 rfl rfl (by omega) (by omega) (fun h25 => by omega) (fun _ => ?_)
        refine Rg.step 29 F_Mo_hasUnit_28 rfl (fun _ => rfl) ?_
        refine Rg.ifeqP 93 32 F_Mo_hasUnit_29 rfl rfl (fun h29 => absurd trivial h29) (fun _ => ?_)
        refine Rg.step 33 F_Mo_hasUnit_32 rfl (fun _ => rfl) ?_
        refine Rg.step 34 F_Mo_hasUnit_33 rfl (fun _ => rfl) ?_
        refine Rg.getf 37 F_Mo_hasUnit_34 rfl rF_26_163 (gM hp) rfl ?_
        refine Rg.step 38 F_Mo_hasUnit_37 rfl (fun _ => rfl) ?_
        refine Rg.lld 39 F_Mo_hasUnit_38 rfl (gR_leastN hp) (by omega) (by decide) ?_
        refine Rg.step 40 F_Mo_hasUnit_39 rfl (fun _ => rfl) ?_
        refine Rg.getf 43 F_Mo_hasUnit_40 rfl rF_26_166 (gM hp) rfl ?_
        refine Rg.step 44 F_Mo_hasUnit_43 rfl (fun _ => rfl) ?_
        refine Rg.lld 45 F_Mo_hasUnit_44 rfl (gR_leastD hp) (by omega) (by decide) ?_
        refine Rg.call 48 F_Mo_hasUnit_45 rfl (one_V rM_26_363 (by decide) (by simp) rfl rfl (gM hp) rfl) (Nat.le_of_ble_eq_true rfl) hc ?_
        refine Rg.ifeqP 85 51 F_Mo_hasUnit_48 rfl rfl (fun h48 => absurd trivial h48) (fun _ => ?_)
        refine Rg.step 52 F_Mo_hasUnit_51 rfl (fun _ => rfl) ?_
        refine Rg.getf 55 F_Mo_hasUnit_52 rfl rF_26_172 (gM hp) rfl ?_
        refine Rg.step 56 F_Mo_hasUnit_55 rfl (fun _ => rfl) ?_
        refine Rg.lld 57 F_Mo_hasUnit_56 rfl (gR_greatestD hp) (by omega) (by decide) ?_
        refine Rg.lcn (n := 0) 58 F_Mo_hasUnit_57 rfl rfl ?_
        refine Rg.lceq 81 62 F_Mo_hasUnit_58 F_Mo_hasUnit_59 rfl rfl (by omega) (by omega) (fun _ => ?_) (fun h58 => by omega)
        refine Rg.cP1 (B := True) 82 F_Mo_hasUnit_81 rfl trivial ?_
        refine Rg.step 86 F_Mo_hasUnit_82 rfl (fun _ => rfl) ?_
        refine Rg.step 87 F_Mo_hasUnit_86 rfl (fun _ => rfl) ?_
        refine Rg.inc 90 F_Mo_hasUnit_87 rfl rfl (by decide) ?_
        refine Rg.step 20 F_Mo_hasUnit_90 rfl (fun _ => rfl) ?_
        exact Rg.weak ht (by simp [lput1, lput2, Value.category, fi0, fi1, fi2, fi3] <;> first | rfl | exact ⟨rfl, rfl⟩) (by simp [lput1, lput2, Value.category, fi0, fi1, fi2, fi3] <;> first | rfl | exact ⟨rfl, rfl⟩)
      · have b4 := b3 hg
        cases hj2 : joinF u1 (greatestN k) (greatestD k) with
        | none =>
          have hN : ¬ ∃ v, unitF leastN leastD greatestN greatestD (n + 1) k u = some v := by
            rintro ⟨v, hv⟩
            rw [unitF, hj, Option.bind_some, if_neg hg, hj2] at hv
            cases hv
          obtain ⟨u2, hc2⟩ := c_Mo_joins_n (d := d) (pre := pre) (post := post) (code := code) (amountN := amountN) (amountD := amountD) (momentN := momentN) (momentD := momentD) (epsilonN := epsilonN) (epsilonD := epsilonD) (firstFacts := firstFacts) (firstN := firstN) (firstD := firstD) (wishes := wishes) (wants := wants) (wantN := wantN) (wantD := wantD) (actions := actions) (needs := needs) (needTime := needTime) (needOf := needOf) (needHow := needHow) (needN := needN) (needD := needD) (changes := changes) (changeTime := changeTime) (changeOf := changeOf) (changeHow := changeHow) (changeN := changeN) (changeD := changeD) (lastOf := lastOf) (lastN := lastN) (lastD := lastD) (steps := steps) (stepAction := stepAction) (startN := startN) (startD := startD) (lengthN := lengthN) (lengthD := lengthD) (rows := rows) (row := row) (tried := tried) (triedAction := triedAction) (triedRows := triedRows) (triedRow := triedRow) (times := times) (unit := u1) (facts := facts) (numN := numN) (numD := numD) (oldFacts := oldFacts) (oldN := oldN) (oldD := oldD) (point := point) (judged := judged) (fault := fault) (faultPoint := faultPoint) (toldFacts := toldFacts) (toldN := toldN) (toldD := toldD) (outN := outN) (outD := outD) (pointN := pointN) (pointD := pointD) (gone := gone) (now := now) (leastN := leastN) (leastD := leastD) (greatestN := greatestN) (greatestD := greatestD) (events := events) hp hu1 (n := greatestN k) (q := greatestD k) (by omega) (by omega) hj2
          refine ⟨u2, fun v z => absurd ⟨v, z⟩ hN, ?_⟩
          refine Rg.step 21 F_Mo_hasUnit_20 rfl (fun _ => rfl) ?_
          refine Rg.step 22 F_Mo_hasUnit_21 rfl (fun _ => rfl) ?_
          refine Rg.getf 25 F_Mo_hasUnit_22 rfl rF_26_280 (gM hp) rfl ?_
          refine Rg.icgeI 93 28 F_Mo_hasUnit_25 rfl rfl (by omega) (by omega) (fun h25 => by omega) (fun _ => ?_)
          refine Rg.step 29 F_Mo_hasUnit_28 rfl (fun _ => rfl) ?_
          refine Rg.ifeqP 93 32 F_Mo_hasUnit_29 rfl rfl (fun h29 => absurd trivial h29) (fun _ => ?_)
          refine Rg.step 33 F_Mo_hasUnit_32 rfl (fun _ => rfl) ?_
          refine Rg.step 34 F_Mo_hasUnit_33 rfl (fun _ => rfl) ?_
          refine Rg.getf 37 F_Mo_hasUnit_34 rfl rF_26_163 (gM hp) rfl ?_
          refine Rg.step 38 F_Mo_hasUnit_37 rfl (fun _ => rfl) ?_
          refine Rg.lld 39 F_Mo_hasUnit_38 rfl (gR_leastN hp) (by omega) (by decide) ?_
          refine Rg.step 40 F_Mo_hasUnit_39 rfl (fun _ => rfl) ?_
          refine Rg.getf 43 F_Mo_hasUnit_40 rfl rF_26_166 (gM hp) rfl ?_
          refine Rg.step 44 F_Mo_hasUnit_43 rfl (fun _ => rfl) ?_
          refine Rg.lld 45 F_Mo_hasUnit_44 rfl (gR_leastD hp) (by omega) (by decide) ?_
          refine Rg.call 48 F_Mo_hasUnit_45 rfl (one_V rM_26_363 (by decide) (by simp) rfl rfl (gM hp) rfl) (Nat.le_of_ble_eq_true rfl) hc ?_
          refine Rg.ifeqP 85 51 F_Mo_hasUnit_48 rfl rfl (fun h48 => absurd trivial h48) (fun _ => ?_)
          refine Rg.step 52 F_Mo_hasUnit_51 rfl (fun _ => rfl) ?_
          refine Rg.getf 55 F_Mo_hasUnit_52 rfl rF_26_172 (gM hp) rfl ?_
          refine Rg.step 56 F_Mo_hasUnit_55 rfl (fun _ => rfl) ?_
          refine Rg.lld 57 F_Mo_hasUnit_56 rfl (gR_greatestD hp) (by omega) (by decide) ?_
          refine Rg.lcn (n := 0) 58 F_Mo_hasUnit_57 rfl rfl ?_
          refine Rg.lceq 81 62 F_Mo_hasUnit_58 F_Mo_hasUnit_59 rfl rfl (by omega) (by omega) (fun h58 => by omega) (fun _ => ?_)
          refine Rg.step 63 F_Mo_hasUnit_62 rfl (fun _ => rfl) ?_
          refine Rg.step 64 F_Mo_hasUnit_63 rfl (fun _ => rfl) ?_
          refine Rg.getf 67 F_Mo_hasUnit_64 rfl rF_26_169 (gM hp) rfl ?_
          refine Rg.step 68 F_Mo_hasUnit_67 rfl (fun _ => rfl) ?_
          refine Rg.lld 69 F_Mo_hasUnit_68 rfl (gR_greatestN hp) (by omega) (by decide) ?_
          refine Rg.step 70 F_Mo_hasUnit_69 rfl (fun _ => rfl) ?_
          refine Rg.getf 73 F_Mo_hasUnit_70 rfl rF_26_172 (gM hp) rfl ?_
          refine Rg.step 74 F_Mo_hasUnit_73 rfl (fun _ => rfl) ?_
          refine Rg.lld 75 F_Mo_hasUnit_74 rfl (gR_greatestD hp) (by omega) (by decide) ?_
          refine Rg.call 78 F_Mo_hasUnit_75 rfl (one_V rM_26_363 (by decide) (by simp) rfl rfl (gM hp) rfl) (Nat.le_of_ble_eq_true rfl) hc2 ?_
          refine Rg.ifeqP 85 81 F_Mo_hasUnit_78 rfl rfl (fun _ => ?_) (fun h78 => absurd h78 (fun z => z))
          refine Rg.cP0 (B := False) 86 F_Mo_hasUnit_85 rfl (fun z => z) ?_
          refine Rg.step 87 F_Mo_hasUnit_86 rfl (fun _ => rfl) ?_
          refine Rg.inc 90 F_Mo_hasUnit_87 rfl rfl (by decide) ?_
          refine Rg.step 20 F_Mo_hasUnit_90 rfl (fun _ => rfl) ?_
          exact Rg.weak (hus_out (k := k + 1) hp wU (by omega) hN) (by simp [lput1, lput2, Value.category, fi0, fi1, fi2, fi3] <;> first | rfl | exact ⟨rfl, rfl⟩) (by simp [lput1, lput2, Value.category, fi0, fi1, fi2, fi3] <;> first | rfl | exact ⟨rfl, rfl⟩)
        | some u2 =>
          have hc2 := c_Mo_joins_y (d := d) (pre := pre) (post := post) (code := code) (amountN := amountN) (amountD := amountD) (momentN := momentN) (momentD := momentD) (epsilonN := epsilonN) (epsilonD := epsilonD) (firstFacts := firstFacts) (firstN := firstN) (firstD := firstD) (wishes := wishes) (wants := wants) (wantN := wantN) (wantD := wantD) (actions := actions) (needs := needs) (needTime := needTime) (needOf := needOf) (needHow := needHow) (needN := needN) (needD := needD) (changes := changes) (changeTime := changeTime) (changeOf := changeOf) (changeHow := changeHow) (changeN := changeN) (changeD := changeD) (lastOf := lastOf) (lastN := lastN) (lastD := lastD) (steps := steps) (stepAction := stepAction) (startN := startN) (startD := startD) (lengthN := lengthN) (lengthD := lengthD) (rows := rows) (row := row) (tried := tried) (triedAction := triedAction) (triedRows := triedRows) (triedRow := triedRow) (times := times) (unit := u1) (facts := facts) (numN := numN) (numD := numD) (oldFacts := oldFacts) (oldN := oldN) (oldD := oldD) (point := point) (judged := judged) (fault := fault) (faultPoint := faultPoint) (toldFacts := toldFacts) (toldN := toldN) (toldD := toldD) (outN := outN) (outD := outD) (pointN := pointN) (pointD := pointD) (gone := gone) (now := now) (leastN := leastN) (leastD := leastD) (greatestN := greatestN) (greatestD := greatestD) (events := events) hp hu1 (n := greatestN k) (q := greatestD k) (by omega) (by omega) hj2
          have hu2 := (joinF_some hu1 (by omega) hj2).1
          obtain ⟨u3, i1, ht⟩ := ih (k + 1) u2 (by omega) (by omega) hu2
          have he : unitF leastN leastD greatestN greatestD (n + 1) k u = unitF leastN leastD greatestN greatestD n (k + 1) u2 := by rw [unitF, hj, Option.bind_some, if_neg hg, hj2, Option.bind_some]
          rw [he]
          refine ⟨u3, i1, ?_⟩
          refine Rg.step 21 F_Mo_hasUnit_20 rfl (fun _ => rfl) ?_
          refine Rg.step 22 F_Mo_hasUnit_21 rfl (fun _ => rfl) ?_
          refine Rg.getf 25 F_Mo_hasUnit_22 rfl rF_26_280 (gM hp) rfl ?_
          refine Rg.icgeI 93 28 F_Mo_hasUnit_25 rfl rfl (by omega) (by omega) (fun h25 => by omega) (fun _ => ?_)
          refine Rg.step 29 F_Mo_hasUnit_28 rfl (fun _ => rfl) ?_
          refine Rg.ifeqP 93 32 F_Mo_hasUnit_29 rfl rfl (fun h29 => absurd trivial h29) (fun _ => ?_)
          refine Rg.step 33 F_Mo_hasUnit_32 rfl (fun _ => rfl) ?_
          refine Rg.step 34 F_Mo_hasUnit_33 rfl (fun _ => rfl) ?_
          refine Rg.getf 37 F_Mo_hasUnit_34 rfl rF_26_163 (gM hp) rfl ?_
          refine Rg.step 38 F_Mo_hasUnit_37 rfl (fun _ => rfl) ?_
          refine Rg.lld 39 F_Mo_hasUnit_38 rfl (gR_leastN hp) (by omega) (by decide) ?_
          refine Rg.step 40 F_Mo_hasUnit_39 rfl (fun _ => rfl) ?_
          refine Rg.getf 43 F_Mo_hasUnit_40 rfl rF_26_166 (gM hp) rfl ?_
          refine Rg.step 44 F_Mo_hasUnit_43 rfl (fun _ => rfl) ?_
          refine Rg.lld 45 F_Mo_hasUnit_44 rfl (gR_leastD hp) (by omega) (by decide) ?_
          refine Rg.call 48 F_Mo_hasUnit_45 rfl (one_V rM_26_363 (by decide) (by simp) rfl rfl (gM hp) rfl) (Nat.le_of_ble_eq_true rfl) hc ?_
          refine Rg.ifeqP 85 51 F_Mo_hasUnit_48 rfl rfl (fun h48 => absurd trivial h48) (fun _ => ?_)
          refine Rg.step 52 F_Mo_hasUnit_51 rfl (fun _ => rfl) ?_
          refine Rg.getf 55 F_Mo_hasUnit_52 rfl rF_26_172 (gM hp) rfl ?_
          refine Rg.step 56 F_Mo_hasUnit_55 rfl (fun _ => rfl) ?_
          refine Rg.lld 57 F_Mo_hasUnit_56 rfl (gR_greatestD hp) (by omega) (by decide) ?_
          refine Rg.lcn (n := 0) 58 F_Mo_hasUnit_57 rfl rfl ?_
          refine Rg.lceq 81 62 F_Mo_hasUnit_58 F_Mo_hasUnit_59 rfl rfl (by omega) (by omega) (fun h58 => by omega) (fun _ => ?_)
          refine Rg.step 63 F_Mo_hasUnit_62 rfl (fun _ => rfl) ?_
          refine Rg.step 64 F_Mo_hasUnit_63 rfl (fun _ => rfl) ?_
          refine Rg.getf 67 F_Mo_hasUnit_64 rfl rF_26_169 (gM hp) rfl ?_
          refine Rg.step 68 F_Mo_hasUnit_67 rfl (fun _ => rfl) ?_
          refine Rg.lld 69 F_Mo_hasUnit_68 rfl (gR_greatestN hp) (by omega) (by decide) ?_
          refine Rg.step 70 F_Mo_hasUnit_69 rfl (fun _ => rfl) ?_
          refine Rg.getf 73 F_Mo_hasUnit_70 rfl rF_26_172 (gM hp) rfl ?_
          refine Rg.step 74 F_Mo_hasUnit_73 rfl (fun _ => rfl) ?_
          refine Rg.lld 75 F_Mo_hasUnit_74 rfl (gR_greatestD hp) (by omega) (by decide) ?_
          refine Rg.call 78 F_Mo_hasUnit_75 rfl (one_V rM_26_363 (by decide) (by simp) rfl rfl (gM hp) rfl) (Nat.le_of_ble_eq_true rfl) hc2 ?_
          refine Rg.ifeqP 85 81 F_Mo_hasUnit_78 rfl rfl (fun h78 => absurd trivial h78) (fun _ => ?_)
          refine Rg.cP1 (B := True) 82 F_Mo_hasUnit_81 rfl trivial ?_
          refine Rg.step 86 F_Mo_hasUnit_82 rfl (fun _ => rfl) ?_
          refine Rg.step 87 F_Mo_hasUnit_86 rfl (fun _ => rfl) ?_
          refine Rg.inc 90 F_Mo_hasUnit_87 rfl rfl (by decide) ?_
          refine Rg.step 20 F_Mo_hasUnit_90 rfl (fun _ => rfl) ?_
          exact Rg.weak ht (by simp [lput1, lput2, Value.category, fi0, fi1, fi2, fi3] <;> first | rfl | exact ⟨rfl, rfl⟩) (by simp [lput1, lput2, Value.category, fi0, fi1, fi2, fi3] <;> first | rfl | exact ⟨rfl, rfl⟩)
theorem c_Mo_hasUnit {d : Nat} (hp : pre.length = 168) (hw : WT epsilonN epsilonD wishes wants wantN wantD actions needs needTime needOf needHow needN needD changes changeTime changeOf changeHow changeN changeD lastOf lastN lastD firstN firstD) (wU : 0 ≤ tried ∧ tried ≤ 12) (hb : WB tried leastN leastD greatestN greatestD) : ∃ u1, (∀ v, unitA epsilonN epsilonD tried leastN leastD greatestN greatestD = some v → u1 = v) ∧ Cg false (d + 3) m_Mo_hasUnit [.ref 168] (MR pre code amountN amountD momentN momentD epsilonN epsilonD firstFacts firstN firstD wishes wants wantN wantD actions needs needTime needOf needHow needN needD changes changeTime changeOf changeHow changeN changeD lastOf lastN lastD steps stepAction startN startD lengthN lengthD rows row tried triedAction triedRows triedRow times unit facts numN numD oldFacts oldN oldD point judged fault faultPoint toldFacts toldN toldD outN outD pointN pointD gone now leastN leastD greatestN greatestD events post) (.inl (some (.int (bP (∃ v, unitA epsilonN epsilonD tried leastN leastD greatestN greatestD = some v))))) (MR pre code amountN amountD momentN momentD epsilonN epsilonD firstFacts firstN firstD wishes wants wantN wantD actions needs needTime needOf needHow needN needD changes changeTime changeOf changeHow changeN changeD lastOf lastN lastD steps stepAction startN startD lengthN lengthD rows row tried triedAction triedRows triedRow times u1 facts numN numD oldFacts oldN oldD point judged fault faultPoint toldFacts toldN toldD outN outD pointN pointD gone now leastN leastD greatestN greatestD events post) := by
  obtain ⟨wE, -, -, -, -, -, -, -, -, -, -, -, -, -, -, -, -, -, -, -, -⟩ := id hw
  cases hj : joinF 1 epsilonN epsilonD with
  | none =>
    have hN : ¬ ∃ v, unitA epsilonN epsilonD tried leastN leastD greatestN greatestD = some v := by
      rintro ⟨v, hv⟩
      rw [unitA, hj] at hv
      cases hv
    obtain ⟨u1, hc⟩ := c_Mo_joins_n (d := d) (pre := pre) (post := post) (code := code) (amountN := amountN) (amountD := amountD) (momentN := momentN) (momentD := momentD) (epsilonN := epsilonN) (epsilonD := epsilonD) (firstFacts := firstFacts) (firstN := firstN) (firstD := firstD) (wishes := wishes) (wants := wants) (wantN := wantN) (wantD := wantD) (actions := actions) (needs := needs) (needTime := needTime) (needOf := needOf) (needHow := needHow) (needN := needN) (needD := needD) (changes := changes) (changeTime := changeTime) (changeOf := changeOf) (changeHow := changeHow) (changeN := changeN) (changeD := changeD) (lastOf := lastOf) (lastN := lastN) (lastD := lastD) (steps := steps) (stepAction := stepAction) (startN := startN) (startD := startD) (lengthN := lengthN) (lengthD := lengthD) (rows := rows) (row := row) (tried := tried) (triedAction := triedAction) (triedRows := triedRows) (triedRow := triedRow) (times := times) (unit := 1) (facts := facts) (numN := numN) (numD := numD) (oldFacts := oldFacts) (oldN := oldN) (oldD := oldD) (point := point) (judged := judged) (fault := fault) (faultPoint := faultPoint) (toldFacts := toldFacts) (toldN := toldN) (toldD := toldD) (outN := outN) (outD := outD) (pointN := pointN) (pointD := pointD) (gone := gone) (now := now) (leastN := leastN) (leastD := leastD) (greatestN := greatestN) (greatestD := greatestD) (events := events) hp (by omega) (n := epsilonN) (q := epsilonD) (by omega) (by omega) hj
    refine ⟨u1, fun v z => absurd ⟨v, z⟩ hN, ?_⟩
    refine Cg.of (Nat.le_of_ble_eq_true rfl) ?_
    change Rg _ _ _ _ 0 [(0, .ref 168)] [] _ _ _
    refine Rg.step 1 F_Mo_hasUnit_0 rfl (fun _ => rfl) ?_
    refine Rg.lcn (n := 1) 2 F_Mo_hasUnit_1 rfl rfl ?_
    refine Rg.put 5 F_Mo_hasUnit_2 rfl rF_26_358 (gM hp) (by decide) (Nat.le_of_ble_eq_true rfl) (Or.inl rfl) rfl (sM_unit hp) ?_
    refine Rg.step 6 F_Mo_hasUnit_5 rfl (fun _ => rfl) ?_
    refine Rg.step 7 F_Mo_hasUnit_6 rfl (fun _ => rfl) ?_
    refine Rg.getf 10 F_Mo_hasUnit_7 rfl rF_26_16 (gM hp) rfl ?_
    refine Rg.step 11 F_Mo_hasUnit_10 rfl (fun _ => rfl) ?_
    refine Rg.getf 14 F_Mo_hasUnit_11 rfl rF_26_21 (gM hp) rfl ?_
    refine Rg.call 17 F_Mo_hasUnit_14 rfl (one_V rM_26_363 (by decide) (by simp) rfl rfl (gM hp) rfl) (Nat.le_of_ble_eq_true rfl) hc ?_
    refine Rg.step 18 F_Mo_hasUnit_17 rfl (fun _ => rfl) ?_
    refine Rg.step 19 F_Mo_hasUnit_18 rfl (fun _ => rfl) ?_
    refine Rg.step 20 F_Mo_hasUnit_19 rfl (fun _ => rfl) ?_
    exact Rg.weak (hus_out (k := 0) hp wU (by omega) hN) (by simp [lput1, lput2, Value.category, fi0, fi1, fi2, fi3] <;> first | rfl | exact ⟨rfl, rfl⟩) (by simp [lput1, lput2, Value.category, fi0, fi1, fi2, fi3] <;> first | rfl | exact ⟨rfl, rfl⟩)
  | some u =>
    have hc := c_Mo_joins_y (d := d) (pre := pre) (post := post) (code := code) (amountN := amountN) (amountD := amountD) (momentN := momentN) (momentD := momentD) (epsilonN := epsilonN) (epsilonD := epsilonD) (firstFacts := firstFacts) (firstN := firstN) (firstD := firstD) (wishes := wishes) (wants := wants) (wantN := wantN) (wantD := wantD) (actions := actions) (needs := needs) (needTime := needTime) (needOf := needOf) (needHow := needHow) (needN := needN) (needD := needD) (changes := changes) (changeTime := changeTime) (changeOf := changeOf) (changeHow := changeHow) (changeN := changeN) (changeD := changeD) (lastOf := lastOf) (lastN := lastN) (lastD := lastD) (steps := steps) (stepAction := stepAction) (startN := startN) (startD := startD) (lengthN := lengthN) (lengthD := lengthD) (rows := rows) (row := row) (tried := tried) (triedAction := triedAction) (triedRows := triedRows) (triedRow := triedRow) (times := times) (unit := 1) (facts := facts) (numN := numN) (numD := numD) (oldFacts := oldFacts) (oldN := oldN) (oldD := oldD) (point := point) (judged := judged) (fault := fault) (faultPoint := faultPoint) (toldFacts := toldFacts) (toldN := toldN) (toldD := toldD) (outN := outN) (outD := outD) (pointN := pointN) (pointD := pointD) (gone := gone) (now := now) (leastN := leastN) (leastD := leastD) (greatestN := greatestN) (greatestD := greatestD) (events := events) hp (by omega) (n := epsilonN) (q := epsilonD) (by omega) (by omega) hj
    have hu1 := (joinF_some (u := 1) (by omega) wE.2.2.1 hj).1
    obtain ⟨u1, i1, ht⟩ := hus_loop (d := d) (n0 := (MR pre code amountN amountD momentN momentD epsilonN epsilonD firstFacts firstN firstD wishes wants wantN wantD actions needs needTime needOf needHow needN needD changes changeTime changeOf changeHow changeN changeD lastOf lastN lastD steps stepAction startN startD lengthN lengthD rows row tried triedAction triedRows triedRow times unit facts numN numD oldFacts oldN oldD point judged fault faultPoint toldFacts toldN toldD outN outD pointN pointD gone now leastN leastD greatestN greatestD events post).length) (pre := pre) (post := post) (code := code) (amountN := amountN) (amountD := amountD) (momentN := momentN) (momentD := momentD) (epsilonN := epsilonN) (epsilonD := epsilonD) (firstFacts := firstFacts) (firstN := firstN) (firstD := firstD) (wishes := wishes) (wants := wants) (wantN := wantN) (wantD := wantD) (actions := actions) (needs := needs) (needTime := needTime) (needOf := needOf) (needHow := needHow) (needN := needN) (needD := needD) (changes := changes) (changeTime := changeTime) (changeOf := changeOf) (changeHow := changeHow) (changeN := changeN) (changeD := changeD) (lastOf := lastOf) (lastN := lastN) (lastD := lastD) (steps := steps) (stepAction := stepAction) (startN := startN) (startD := startD) (lengthN := lengthN) (lengthD := lengthD) (rows := rows) (row := row) (tried := tried) (triedAction := triedAction) (triedRows := triedRows) (triedRow := triedRow) (times := times) (facts := facts) (numN := numN) (numD := numD) (oldFacts := oldFacts) (oldN := oldN) (oldD := oldD) (point := point) (judged := judged) (fault := fault) (faultPoint := faultPoint) (toldFacts := toldFacts) (toldN := toldN) (toldD := toldD) (outN := outN) (outD := outD) (pointN := pointN) (pointD := pointD) (gone := gone) (now := now) (leastN := leastN) (leastD := leastD) (greatestN := greatestN) (greatestD := greatestD) (events := events) hp wU hb tried.toNat 0 u (by omega) (by omega) hu1
    have he : unitA epsilonN epsilonD tried leastN leastD greatestN greatestD = unitF leastN leastD greatestN greatestD tried.toNat 0 u := by rw [unitA, hj, Option.bind_some]
    rw [he]
    refine ⟨u1, i1, ?_⟩
    refine Cg.of (Nat.le_of_ble_eq_true rfl) ?_
    change Rg _ _ _ _ 0 [(0, .ref 168)] [] _ _ _
    refine Rg.step 1 F_Mo_hasUnit_0 rfl (fun _ => rfl) ?_
    refine Rg.lcn (n := 1) 2 F_Mo_hasUnit_1 rfl rfl ?_
    refine Rg.put 5 F_Mo_hasUnit_2 rfl rF_26_358 (gM hp) (by decide) (Nat.le_of_ble_eq_true rfl) (Or.inl rfl) rfl (sM_unit hp) ?_
    refine Rg.step 6 F_Mo_hasUnit_5 rfl (fun _ => rfl) ?_
    refine Rg.step 7 F_Mo_hasUnit_6 rfl (fun _ => rfl) ?_
    refine Rg.getf 10 F_Mo_hasUnit_7 rfl rF_26_16 (gM hp) rfl ?_
    refine Rg.step 11 F_Mo_hasUnit_10 rfl (fun _ => rfl) ?_
    refine Rg.getf 14 F_Mo_hasUnit_11 rfl rF_26_21 (gM hp) rfl ?_
    refine Rg.call 17 F_Mo_hasUnit_14 rfl (one_V rM_26_363 (by decide) (by simp) rfl rfl (gM hp) rfl) (Nat.le_of_ble_eq_true rfl) hc ?_
    refine Rg.step 18 F_Mo_hasUnit_17 rfl (fun _ => rfl) ?_
    refine Rg.step 19 F_Mo_hasUnit_18 rfl (fun _ => rfl) ?_
    refine Rg.step 20 F_Mo_hasUnit_19 rfl (fun _ => rfl) ?_
    exact Rg.weak ht (by simp [lput1, lput2, Value.category, fi0, fi1, fi2, fi3] <;> first | rfl | exact ⟨rfl, rfl⟩) (by simp [lput1, lput2, Value.category, fi0, fi1, fi2, fi3] <;> first | rfl | exact ⟨rfl, rfl⟩)
theorem c_Mo_units {d : Nat}  (hp : pre.length = 168) (hu : 0 < unit ∧ unit ≤ 100000) {n q : Int} (hd : 0 < q ∧ q < 9223372036854775808) : Cg true d m_Mo_units [.ref 168, .long (lI n), .long (lI q)] (MR pre code amountN amountD momentN momentD epsilonN epsilonD firstFacts firstN firstD wishes wants wantN wantD actions needs needTime needOf needHow needN needD changes changeTime changeOf changeHow changeN changeD lastOf lastN lastD steps stepAction startN startD lengthN lengthD rows row tried triedAction triedRows triedRow times unit facts numN numD oldFacts oldN oldD point judged fault faultPoint toldFacts toldN toldD outN outD pointN pointD gone now leastN leastD greatestN greatestD events post) (.inl (some (.long (lI (n * (unit / q)))))) (MR pre code amountN amountD momentN momentD epsilonN epsilonD firstFacts firstN firstD wishes wants wantN wantD actions needs needTime needOf needHow needN needD changes changeTime changeOf changeHow changeN changeD lastOf lastN lastD steps stepAction startN startD lengthN lengthD rows row tried triedAction triedRows triedRow times unit facts numN numD oldFacts oldN oldD point judged fault faultPoint toldFacts toldN toldD outN outD pointN pointD gone now leastN leastD greatestN greatestD events post) := by
  refine Cg.of (Nat.le_of_ble_eq_true rfl) ?_
  change Rg _ _ _ _ 0 [(0, .ref 168), (1, .long (lI n)), (3, .long (lI q))] [] _ _ _
  refine Rg.step 1 F_Mo_units_0 rfl (fun _ => rfl) ?_
  refine Rg.step 2 F_Mo_units_1 rfl (fun _ => rfl) ?_
  refine Rg.getf 5 F_Mo_units_2 rfl rF_26_358 (gM hp) rfl ?_
  refine Rg.step 6 F_Mo_units_5 rfl (fun _ => rfl) ?_
  refine Rg.divLp 7 F_Mo_units_6 rfl (by omega) (by omega) ?_
  refine Rg.mulL 8 F_Mo_units_7 rfl ?_
  exact Rg.retL F_Mo_units_8 rfl rfl rfl
theorem c_Mo_lift {d : Nat} (hp : pre.length = 168) {p v : Int} (h1 : 0 ≤ p ∧ p < 24) (h2 : -9223372036854775808 ≤ times p ∧ times p < 9223372036854775808) (h3 : -9223372036854775808 ≤ v ∧ v < 9223372036854775808) : Cg false d m_Mo_lift [.ref 168, .int (iI p), .long (lI v)] (MR pre code amountN amountD momentN momentD epsilonN epsilonD firstFacts firstN firstD wishes wants wantN wantD actions needs needTime needOf needHow needN needD changes changeTime changeOf changeHow changeN changeD lastOf lastN lastD steps stepAction startN startD lengthN lengthD rows row tried triedAction triedRows triedRow times unit facts numN numD oldFacts oldN oldD point judged fault faultPoint toldFacts toldN toldD outN outD pointN pointD gone now leastN leastD greatestN greatestD events post) (.inl (some (.int (bP (times p < v))))) (MR pre code amountN amountD momentN momentD epsilonN epsilonD firstFacts firstN firstD wishes wants wantN wantD actions needs needTime needOf needHow needN needD changes changeTime changeOf changeHow changeN changeD lastOf lastN lastD steps stepAction startN startD lengthN lengthD rows row tried triedAction triedRows triedRow (lft times p v) unit facts numN numD oldFacts oldN oldD point judged fault faultPoint toldFacts toldN toldD outN outD pointN pointD gone now leastN leastD greatestN greatestD events post) := by
  by_cases h : times p < v
  · rw [lf_yes h]
    refine Cg.of (Nat.le_of_ble_eq_true rfl) ?_
    change Rg _ _ _ _ 0 [(0, .ref 168), (1, .int (iI p)), (2, .long (lI v))] [] _ _ _
    refine Rg.step 1 F_Mo_lift_0 rfl (fun _ => rfl) ?_
    refine Rg.getf 4 F_Mo_lift_1 rfl rF_26_117 (gM hp) rfl ?_
    refine Rg.step 5 F_Mo_lift_4 rfl (fun _ => rfl) ?_
    refine Rg.lld 6 F_Mo_lift_5 rfl (gR_times hp) (by omega) (by decide) ?_
    refine Rg.step 7 F_Mo_lift_6 rfl (fun _ => rfl) ?_
    refine Rg.lclt 13 11 F_Mo_lift_7 F_Mo_lift_8 rfl rfl (by omega) (by omega) (fun _ => ?_) (fun h7 => by omega)
    refine Rg.step 14 F_Mo_lift_13 rfl (fun _ => rfl) ?_
    refine Rg.getf 17 F_Mo_lift_14 rfl rF_26_117 (gM hp) rfl ?_
    refine Rg.step 18 F_Mo_lift_17 rfl (fun _ => rfl) ?_
    refine Rg.step 19 F_Mo_lift_18 rfl (fun _ => rfl) ?_
    refine Rg.lst 20 F_Mo_lift_19 rfl (gR_times hp) (by decide) (sR_times hp) (by omega) (by decide) ?_
    refine Rg.step 21 F_Mo_lift_20 rfl (fun _ => rfl) ?_
    exact Rg.ret1 F_Mo_lift_21 rfl h rfl
  · rw [lf_no h]
    refine Cg.of (Nat.le_of_ble_eq_true rfl) ?_
    change Rg _ _ _ _ 0 [(0, .ref 168), (1, .int (iI p)), (2, .long (lI v))] [] _ _ _
    refine Rg.step 1 F_Mo_lift_0 rfl (fun _ => rfl) ?_
    refine Rg.getf 4 F_Mo_lift_1 rfl rF_26_117 (gM hp) rfl ?_
    refine Rg.step 5 F_Mo_lift_4 rfl (fun _ => rfl) ?_
    refine Rg.lld 6 F_Mo_lift_5 rfl (gR_times hp) (by omega) (by decide) ?_
    refine Rg.step 7 F_Mo_lift_6 rfl (fun _ => rfl) ?_
    refine Rg.lclt 13 11 F_Mo_lift_7 F_Mo_lift_8 rfl rfl (by omega) (by omega) (fun h7 => by omega) (fun _ => ?_)
    refine Rg.step 12 F_Mo_lift_11 rfl (fun _ => rfl) ?_
    exact Rg.ret0 F_Mo_lift_12 rfl h rfl
theorem lift_in {d n0 : Nat} (hp : pre.length = 168) (hw : WT epsilonN epsilonD wishes wants wantN wantD actions needs needTime needOf needHow needN needD changes changeTime changeOf changeHow changeN changeD lastOf lastN lastD firstN firstD) (wT : ∀ s, 0 ≤ triedAction s ∧ triedAction s < 12) (wU : 0 ≤ tried ∧ tried ≤ 12) (wV : 0 ≤ triedRows ∧ triedRows ≤ 24) (hrow : ∀ k, 0 ≤ k → k < triedRows → 0 ≤ triedRow k ∧ triedRow k < 2 * tried) (hu : 0 < unit ∧ unit ≤ 100000) (hE : 0 ≤ (epsilonN * (unit / epsilonD)) ∧ (epsilonN * (unit / epsilonD)) ≤ 1000000000) (hL : ∀ s, 0 ≤ s → s < tried → (0 ≤ leastN s * (unit / leastD s) ∧ leastN s * (unit / leastD s) ≤ 1000000000) ∧ 0 < leastD s ∧ leastD s < 9223372036854775808) (hG : ∀ s, 0 ≤ s → s < tried → (0 ≤ greatestD s ∧ greatestD s < 9223372036854775808) ∧ (-9223372036854775808 ≤ greatestN s ∧ greatestN s < 9223372036854775808) ∧ (¬ greatestD s = 0 → 0 ≤ greatestN s → 0 ≤ greatestN s * (unit / greatestD s) ∧ greatestN s * (unit / greatestD s) ≤ 1000000000)) {t0 : Int → Int} {i : Int} (hi : 0 ≤ i) : ∀ (n : Nat) (k : Int) (t : Int → Int) (A : Prop) (b : Int), k + n = triedRows → i < k → LInv (2 * tried) (Sol tried triedRows triedRow (intP triedAction needs needTime needHow needOf lastOf changes changeTime changeHow changeOf) (epsilonN * (unit / epsilonD)) (fun s => leastN s * (unit / leastD s)) (fun s => ¬ greatestD s = 0) (fun s => if greatestN s < 0 then -1 else greatestN s * (unit / greatestD s))) t0 t A b → 0 ≤ b ∧ b + 1000000000 * (n : Int) ≤ 1000000000000000 → (∀ i' k', 0 ≤ i' → i' < k' → k' < triedRows → (i' < i ∨ (i' = i ∧ k' < k)) → t0 (triedRow i') + wgt (intP triedAction needs needTime needHow needOf lastOf changes changeTime changeHow changeOf) (epsilonN * (unit / epsilonD)) (triedRow i') (triedRow k') ≤ t (triedRow k')) → ∃ t1 A1, LInv (2 * tried) (Sol tried triedRows triedRow (intP triedAction needs needTime needHow needOf lastOf changes changeTime changeHow changeOf) (epsilonN * (unit / epsilonD)) (fun s => leastN s * (unit / leastD s)) (fun s => ¬ greatestD s = 0) (fun s => if greatestN s < 0 then -1 else greatestN s * (unit / greatestD s))) t0 t1 A1 (b + 1000000000 * (n : Int)) ∧ (∀ i' k', 0 ≤ i' → i' < k' → k' < triedRows → (i' < i ∨ (i' = i ∧ k' < triedRows)) → t0 (triedRow i') + wgt (intP triedAction needs needTime needHow needOf lastOf changes changeTime changeHow changeOf) (epsilonN * (unit / epsilonD)) (triedRow i') (triedRow k') ≤ t1 (triedRow k')) ∧ ∀ o mem1, Rg false (d + 5) m_Mo_liftAll n0 90 [(2, .int (iI i)), (1, .int (bP A1)), (0, .ref 168)] [] (MR pre code amountN amountD momentN momentD epsilonN epsilonD firstFacts firstN firstD wishes wants wantN wantD actions needs needTime needOf needHow needN needD changes changeTime changeOf changeHow changeN changeD lastOf lastN lastD steps stepAction startN startD lengthN lengthD rows row tried triedAction triedRows triedRow t1 unit facts numN numD oldFacts oldN oldD point judged fault faultPoint toldFacts toldN toldD outN outD pointN pointD gone now leastN leastD greatestN greatestD events post) o mem1 → Rg false (d + 5) m_Mo_liftAll n0 16 [(3, .int (iI k)), (2, .int (iI i)), (1, .int (bP A)), (0, .ref 168)] [] (MR pre code amountN amountD momentN momentD epsilonN epsilonD firstFacts firstN firstD wishes wants wantN wantD actions needs needTime needOf needHow needN needD changes changeTime changeOf changeHow changeN changeD lastOf lastN lastD steps stepAction startN startD lengthN lengthD rows row tried triedAction triedRows triedRow t unit facts numN numD oldFacts oldN oldD point judged fault faultPoint toldFacts toldN toldD outN outD pointN pointD gone now leastN leastD greatestN greatestD events post) o mem1 := by
  intro n
  induction n with
  | zero =>
    intro k t A b hk hik hi1 hb hE1
    have hk : k = triedRows := by omega
    subst hk
    refine ⟨t, A, hi1.mono (by omega), hE1, fun o mem1 hg => ?_⟩
    refine Rg.step 17 F_Mo_liftAll_16 rfl (fun _ => rfl) ?_
    refine Rg.step 18 F_Mo_liftAll_17 rfl (fun _ => rfl) ?_
    refine Rg.getf 21 F_Mo_liftAll_18 rfl rF_26_283 (gM hp) rfl ?_
    refine Rg.icgeI 90 24 F_Mo_liftAll_21 rfl rfl (by omega) (by omega) (fun _ => ?_) (fun h21 => by omega)
    exact Rg.weak hg (by simp [lput1, lput2, Value.category, fi0, fi1, fi2, fi3] <;> first | rfl | exact ⟨rfl, rfl⟩) (by simp [lput1, lput2, Value.category, fi0, fi1, fi2, fi3] <;> first | rfl | exact ⟨rfl, rfl⟩)
  | succ n ih =>
    intro k t A b hk hik hi1 hb hE1
    have r1 := hrow i hi (by omega)
    have r2 := hrow k (by omega) (by omega)
    have t1 := hi1.2.2.2.1 (triedRow i)
    have t2 := hi1.2.2.2.1 (triedRow k)
    obtain ⟨wE, -, -, -, -, -, -, -, -, -, -, -, -, -, -, -, -, -, -, -, -⟩ := id hw
    by_cases hI : (intP triedAction needs needTime needHow needOf lastOf changes changeTime changeHow changeOf) (triedRow i) (triedRow k)
    · skip
      have hv : ∀ u, (Sol tried triedRows triedRow (intP triedAction needs needTime needHow needOf lastOf changes changeTime changeHow changeOf) (epsilonN * (unit / epsilonD)) (fun s => leastN s * (unit / leastD s)) (fun s => ¬ greatestD s = 0) (fun s => if greatestN s < 0 then -1 else greatestN s * (unit / greatestD s))) u → (∀ x, t x ≤ u x) → t (triedRow i) + (epsilonN * (unit / epsilonD)) ≤ u (triedRow k) := fun u z1 z2 => by
        have y1 := z1.2.1 i k hi hik (by omega)
        rw [wgt_y hI] at y1
        have := z2 (triedRow i)
        omega
      have hn := hi1.lf (p := triedRow k) (v := t (triedRow i) + (epsilonN * (unit / epsilonD))) (b1 := b + 1000000000) (by omega) hv (by omega) (by omega)
      obtain ⟨t9, A9, i1, i2, ht⟩ := ih (k + 1) (lft t (triedRow k) (t (triedRow i) + (epsilonN * (unit / epsilonD)))) (A ∨ t (triedRow k) < t (triedRow i) + (epsilonN * (unit / epsilonD))) (b + 1000000000) (by omega) (by omega) hn (by omega) (fun i' k' z1 z2 z3 z4 => by
        by_cases hq : i' = i ∧ k' = k
        · have y1 := lf_ge t (triedRow k) (t (triedRow i) + (epsilonN * (unit / epsilonD)))
          have y2 := hi1.1 (triedRow i)
          rw [hq.1, hq.2, wgt_y hI]
          omega
        · exact Int.le_trans (hE1 i' k' z1 z2 z3 (by omega)) (lf_le _ _ _ _))
      refine ⟨t9, A9, i1.mono (by omega), i2, fun o mem1 hg => ?_⟩
      refine Rg.step 17 F_Mo_liftAll_16 rfl (fun _ => rfl) ?_
      refine Rg.step 18 F_Mo_liftAll_17 rfl (fun _ => rfl) ?_
      refine Rg.getf 21 F_Mo_liftAll_18 rfl rF_26_283 (gM hp) rfl ?_
      refine Rg.icgeI 90 24 F_Mo_liftAll_21 rfl rfl (by omega) (by omega) (fun h21 => by omega) (fun _ => ?_)
      refine Rg.step 25 F_Mo_liftAll_24 rfl (fun _ => rfl) ?_
      refine Rg.getf 28 F_Mo_liftAll_25 rfl rF_26_114 (gM hp) rfl ?_
      refine Rg.step 29 F_Mo_liftAll_28 rfl (fun _ => rfl) ?_
      refine Rg.ild 30 F_Mo_liftAll_29 rfl (gR_triedRow hp) (by omega) (by decide) ?_
      refine Rg.step 32 F_Mo_liftAll_30 rfl (fun _ => rfl) ?_
      refine Rg.step 33 F_Mo_liftAll_32 rfl (fun _ => rfl) ?_
      refine Rg.getf 36 F_Mo_liftAll_33 rfl rF_26_114 (gM hp) rfl ?_
      refine Rg.step 37 F_Mo_liftAll_36 rfl (fun _ => rfl) ?_
      refine Rg.ild 38 F_Mo_liftAll_37 rfl (gR_triedRow hp) (by omega) (by decide) ?_
      refine Rg.step 40 F_Mo_liftAll_38 rfl (fun _ => rfl) ?_
      refine Rg.step 41 F_Mo_liftAll_40 rfl (fun _ => rfl) ?_
      refine Rg.step 42 F_Mo_liftAll_41 rfl (fun _ => rfl) ?_
      refine Rg.step 44 F_Mo_liftAll_42 rfl (fun _ => rfl) ?_
      refine Rg.step 45 F_Mo_liftAll_44 rfl (fun _ => rfl) ?_
      refine Rg.getf 48 F_Mo_liftAll_45 rfl rF_26_117 (gM hp) rfl ?_
      refine Rg.step 50 F_Mo_liftAll_48 rfl (fun _ => rfl) ?_
      refine Rg.lld 51 F_Mo_liftAll_50 rfl (gR_times hp) (by omega) (by decide) ?_
      refine Rg.step 52 F_Mo_liftAll_51 rfl (fun _ => rfl) ?_
      refine Rg.step 54 F_Mo_liftAll_52 rfl (fun _ => rfl) ?_
      refine Rg.step 56 F_Mo_liftAll_54 rfl (fun _ => rfl) ?_
      refine Rg.call 59 F_Mo_liftAll_56 rfl (one_V rM_26_290 (by decide) (by simp) rfl rfl (gM hp) rfl) (Nat.le_of_ble_eq_true rfl) (Cg.any (c_Mo_interfere hp hw wT (by omega) (by omega))) ?_
      refine Rg.ifeqP 77 62 F_Mo_liftAll_59 rfl rfl (fun h59 => absurd hI h59) (fun _ => ?_)
      refine Rg.step 63 F_Mo_liftAll_62 rfl (fun _ => rfl) ?_
      refine Rg.step 64 F_Mo_liftAll_63 rfl (fun _ => rfl) ?_
      refine Rg.getf 67 F_Mo_liftAll_64 rfl rF_26_16 (gM hp) rfl ?_
      refine Rg.step 68 F_Mo_liftAll_67 rfl (fun _ => rfl) ?_
      refine Rg.getf 71 F_Mo_liftAll_68 rfl rF_26_21 (gM hp) rfl ?_
      refine Rg.call 74 F_Mo_liftAll_71 rfl (one_V rM_26_367 (by decide) (by simp) rfl rfl (gM hp) rfl) (Nat.le_of_ble_eq_true rfl) (Cg.any (c_Mo_units hp hu (by omega))) ?_
      refine Rg.step 78 F_Mo_liftAll_74 rfl (fun _ => rfl) ?_
      refine Rg.addL 79 F_Mo_liftAll_78 rfl ?_
      refine Rg.call 82 F_Mo_liftAll_79 rfl (one_V rM_26_370 (by decide) (by simp) rfl rfl (gM hp) rfl) (Nat.le_of_ble_eq_true rfl) (c_Mo_lift hp (by omega) (by omega) (by omega)) ?_
      refine Rg.orP 83 F_Mo_liftAll_82 rfl ?_
      refine Rg.step 84 F_Mo_liftAll_83 rfl (fun _ => rfl) ?_
      refine Rg.inc 87 F_Mo_liftAll_84 rfl rfl (by decide) ?_
      refine Rg.step 16 F_Mo_liftAll_87 rfl (fun _ => rfl) ?_
      exact Rg.weak (ht o mem1 hg) (by simp [lput1, lput2, Value.category, fi0, fi1, fi2, fi3] <;> first | rfl | exact ⟨rfl, rfl⟩) (by simp [lput1, lput2, Value.category, fi0, fi1, fi2, fi3] <;> first | rfl | exact ⟨rfl, rfl⟩)
    · skip
      have hv : ∀ u, (Sol tried triedRows triedRow (intP triedAction needs needTime needHow needOf lastOf changes changeTime changeHow changeOf) (epsilonN * (unit / epsilonD)) (fun s => leastN s * (unit / leastD s)) (fun s => ¬ greatestD s = 0) (fun s => if greatestN s < 0 then -1 else greatestN s * (unit / greatestD s))) u → (∀ x, t x ≤ u x) → t (triedRow i) + 0 ≤ u (triedRow k) := fun u z1 z2 => by
        have y1 := z1.2.1 i k hi hik (by omega)
        rw [wgt_n hI] at y1
        have := z2 (triedRow i)
        omega
      have hn := hi1.lf (p := triedRow k) (v := t (triedRow i) + 0) (b1 := b + 1000000000) (by omega) hv (by omega) (by omega)
      obtain ⟨t9, A9, i1, i2, ht⟩ := ih (k + 1) (lft t (triedRow k) (t (triedRow i) + 0)) (A ∨ t (triedRow k) < t (triedRow i) + 0) (b + 1000000000) (by omega) (by omega) hn (by omega) (fun i' k' z1 z2 z3 z4 => by
        by_cases hq : i' = i ∧ k' = k
        · have y1 := lf_ge t (triedRow k) (t (triedRow i) + 0)
          have y2 := hi1.1 (triedRow i)
          rw [hq.1, hq.2, wgt_n hI]
          omega
        · exact Int.le_trans (hE1 i' k' z1 z2 z3 (by omega)) (lf_le _ _ _ _))
      refine ⟨t9, A9, i1.mono (by omega), i2, fun o mem1 hg => ?_⟩
      refine Rg.step 17 F_Mo_liftAll_16 rfl (fun _ => rfl) ?_
      refine Rg.step 18 F_Mo_liftAll_17 rfl (fun _ => rfl) ?_
      refine Rg.getf 21 F_Mo_liftAll_18 rfl rF_26_283 (gM hp) rfl ?_
      refine Rg.icgeI 90 24 F_Mo_liftAll_21 rfl rfl (by omega) (by omega) (fun h21 => by omega) (fun _ => ?_)
      refine Rg.step 25 F_Mo_liftAll_24 rfl (fun _ => rfl) ?_
      refine Rg.getf 28 F_Mo_liftAll_25 rfl rF_26_114 (gM hp) rfl ?_
      refine Rg.step 29 F_Mo_liftAll_28 rfl (fun _ => rfl) ?_
      refine Rg.ild 30 F_Mo_liftAll_29 rfl (gR_triedRow hp) (by omega) (by decide) ?_
      refine Rg.step 32 F_Mo_liftAll_30 rfl (fun _ => rfl) ?_
      refine Rg.step 33 F_Mo_liftAll_32 rfl (fun _ => rfl) ?_
      refine Rg.getf 36 F_Mo_liftAll_33 rfl rF_26_114 (gM hp) rfl ?_
      refine Rg.step 37 F_Mo_liftAll_36 rfl (fun _ => rfl) ?_
      refine Rg.ild 38 F_Mo_liftAll_37 rfl (gR_triedRow hp) (by omega) (by decide) ?_
      refine Rg.step 40 F_Mo_liftAll_38 rfl (fun _ => rfl) ?_
      refine Rg.step 41 F_Mo_liftAll_40 rfl (fun _ => rfl) ?_
      refine Rg.step 42 F_Mo_liftAll_41 rfl (fun _ => rfl) ?_
      refine Rg.step 44 F_Mo_liftAll_42 rfl (fun _ => rfl) ?_
      refine Rg.step 45 F_Mo_liftAll_44 rfl (fun _ => rfl) ?_
      refine Rg.getf 48 F_Mo_liftAll_45 rfl rF_26_117 (gM hp) rfl ?_
      refine Rg.step 50 F_Mo_liftAll_48 rfl (fun _ => rfl) ?_
      refine Rg.lld 51 F_Mo_liftAll_50 rfl (gR_times hp) (by omega) (by decide) ?_
      refine Rg.step 52 F_Mo_liftAll_51 rfl (fun _ => rfl) ?_
      refine Rg.step 54 F_Mo_liftAll_52 rfl (fun _ => rfl) ?_
      refine Rg.step 56 F_Mo_liftAll_54 rfl (fun _ => rfl) ?_
      refine Rg.call 59 F_Mo_liftAll_56 rfl (one_V rM_26_290 (by decide) (by simp) rfl rfl (gM hp) rfl) (Nat.le_of_ble_eq_true rfl) (Cg.any (c_Mo_interfere hp hw wT (by omega) (by omega))) ?_
      refine Rg.ifeqP 77 62 F_Mo_liftAll_59 rfl rfl (fun _ => ?_) (fun h59 => absurd h59 hI)
      refine Rg.lcn (n := 0) 78 F_Mo_liftAll_77 rfl rfl ?_
      refine Rg.addL 79 F_Mo_liftAll_78 rfl ?_
      refine Rg.call 82 F_Mo_liftAll_79 rfl (one_V rM_26_370 (by decide) (by simp) rfl rfl (gM hp) rfl) (Nat.le_of_ble_eq_true rfl) (c_Mo_lift hp (by omega) (by omega) (by omega)) ?_
      refine Rg.orP 83 F_Mo_liftAll_82 rfl ?_
      refine Rg.step 84 F_Mo_liftAll_83 rfl (fun _ => rfl) ?_
      refine Rg.inc 87 F_Mo_liftAll_84 rfl rfl (by decide) ?_
      refine Rg.step 16 F_Mo_liftAll_87 rfl (fun _ => rfl) ?_
      exact Rg.weak (ht o mem1 hg) (by simp [lput1, lput2, Value.category, fi0, fi1, fi2, fi3] <;> first | rfl | exact ⟨rfl, rfl⟩) (by simp [lput1, lput2, Value.category, fi0, fi1, fi2, fi3] <;> first | rfl | exact ⟨rfl, rfl⟩)
theorem lift_out {d n0 : Nat} (hp : pre.length = 168) (hw : WT epsilonN epsilonD wishes wants wantN wantD actions needs needTime needOf needHow needN needD changes changeTime changeOf changeHow changeN changeD lastOf lastN lastD firstN firstD) (wT : ∀ s, 0 ≤ triedAction s ∧ triedAction s < 12) (wU : 0 ≤ tried ∧ tried ≤ 12) (wV : 0 ≤ triedRows ∧ triedRows ≤ 24) (hrow : ∀ k, 0 ≤ k → k < triedRows → 0 ≤ triedRow k ∧ triedRow k < 2 * tried) (hu : 0 < unit ∧ unit ≤ 100000) (hE : 0 ≤ (epsilonN * (unit / epsilonD)) ∧ (epsilonN * (unit / epsilonD)) ≤ 1000000000) (hL : ∀ s, 0 ≤ s → s < tried → (0 ≤ leastN s * (unit / leastD s) ∧ leastN s * (unit / leastD s) ≤ 1000000000) ∧ 0 < leastD s ∧ leastD s < 9223372036854775808) (hG : ∀ s, 0 ≤ s → s < tried → (0 ≤ greatestD s ∧ greatestD s < 9223372036854775808) ∧ (-9223372036854775808 ≤ greatestN s ∧ greatestN s < 9223372036854775808) ∧ (¬ greatestD s = 0 → 0 ≤ greatestN s → 0 ≤ greatestN s * (unit / greatestD s) ∧ greatestN s * (unit / greatestD s) ≤ 1000000000)) {t0 : Int → Int} : ∀ (n : Nat) (i : Int) (t : Int → Int) (A : Prop) (b : Int), i + n = triedRows → 0 ≤ i → LInv (2 * tried) (Sol tried triedRows triedRow (intP triedAction needs needTime needHow needOf lastOf changes changeTime changeHow changeOf) (epsilonN * (unit / epsilonD)) (fun s => leastN s * (unit / leastD s)) (fun s => ¬ greatestD s = 0) (fun s => if greatestN s < 0 then -1 else greatestN s * (unit / greatestD s))) t0 t A b → 0 ≤ b ∧ b + 24000000000 * (n : Int) ≤ 1000000000000000 → (∀ i' k', 0 ≤ i' → i' < k' → k' < triedRows → i' < i → t0 (triedRow i') + wgt (intP triedAction needs needTime needHow needOf lastOf changes changeTime changeHow changeOf) (epsilonN * (unit / epsilonD)) (triedRow i') (triedRow k') ≤ t (triedRow k')) → ∃ t1 A1, LInv (2 * tried) (Sol tried triedRows triedRow (intP triedAction needs needTime needHow needOf lastOf changes changeTime changeHow changeOf) (epsilonN * (unit / epsilonD)) (fun s => leastN s * (unit / leastD s)) (fun s => ¬ greatestD s = 0) (fun s => if greatestN s < 0 then -1 else greatestN s * (unit / greatestD s))) t0 t1 A1 (b + 24000000000 * (n : Int)) ∧ (∀ i' k', 0 ≤ i' → i' < k' → k' < triedRows → i' < triedRows → t0 (triedRow i') + wgt (intP triedAction needs needTime needHow needOf lastOf changes changeTime changeHow changeOf) (epsilonN * (unit / epsilonD)) (triedRow i') (triedRow k') ≤ t1 (triedRow k')) ∧ ∀ o mem1, Rg false (d + 5) m_Mo_liftAll n0 96 [(1, .int (bP A1)), (0, .ref 168)] [] (MR pre code amountN amountD momentN momentD epsilonN epsilonD firstFacts firstN firstD wishes wants wantN wantD actions needs needTime needOf needHow needN needD changes changeTime changeOf changeHow changeN changeD lastOf lastN lastD steps stepAction startN startD lengthN lengthD rows row tried triedAction triedRows triedRow t1 unit facts numN numD oldFacts oldN oldD point judged fault faultPoint toldFacts toldN toldD outN outD pointN pointD gone now leastN leastD greatestN greatestD events post) o mem1 → Rg false (d + 5) m_Mo_liftAll n0 4 [(2, .int (iI i)), (1, .int (bP A)), (0, .ref 168)] [] (MR pre code amountN amountD momentN momentD epsilonN epsilonD firstFacts firstN firstD wishes wants wantN wantD actions needs needTime needOf needHow needN needD changes changeTime changeOf changeHow changeN changeD lastOf lastN lastD steps stepAction startN startD lengthN lengthD rows row tried triedAction triedRows triedRow t unit facts numN numD oldFacts oldN oldD point judged fault faultPoint toldFacts toldN toldD outN outD pointN pointD gone now leastN leastD greatestN greatestD events post) o mem1 := by
  intro n
  induction n with
  | zero =>
    intro i t A b hk hi hi1 hb hE1
    have hk : i = triedRows := by omega
    subst hk
    refine ⟨t, A, hi1.mono (by omega), hE1, fun o mem1 hg => ?_⟩
    refine Rg.step 5 F_Mo_liftAll_4 rfl (fun _ => rfl) ?_
    refine Rg.step 6 F_Mo_liftAll_5 rfl (fun _ => rfl) ?_
    refine Rg.getf 9 F_Mo_liftAll_6 rfl rF_26_283 (gM hp) rfl ?_
    refine Rg.icgeI 96 12 F_Mo_liftAll_9 rfl rfl (by omega) (by omega) (fun _ => ?_) (fun h9 => by omega)
    exact Rg.weak hg (by simp [lput1, lput2, Value.category, fi0, fi1, fi2, fi3] <;> first | rfl | exact ⟨rfl, rfl⟩) (by simp [lput1, lput2, Value.category, fi0, fi1, fi2, fi3] <;> first | rfl | exact ⟨rfl, rfl⟩)
  | succ n ih =>
    intro i t A b hk hi hi1 hb hE1
    obtain ⟨t2, A2, j1, j2, ht2⟩ := lift_in (d := d) (n0 := n0) (pre := pre) (post := post) (code := code) (amountN := amountN) (amountD := amountD) (momentN := momentN) (momentD := momentD) (epsilonN := epsilonN) (epsilonD := epsilonD) (firstFacts := firstFacts) (firstN := firstN) (firstD := firstD) (wishes := wishes) (wants := wants) (wantN := wantN) (wantD := wantD) (actions := actions) (needs := needs) (needTime := needTime) (needOf := needOf) (needHow := needHow) (needN := needN) (needD := needD) (changes := changes) (changeTime := changeTime) (changeOf := changeOf) (changeHow := changeHow) (changeN := changeN) (changeD := changeD) (lastOf := lastOf) (lastN := lastN) (lastD := lastD) (steps := steps) (stepAction := stepAction) (startN := startN) (startD := startD) (lengthN := lengthN) (lengthD := lengthD) (rows := rows) (row := row) (tried := tried) (triedAction := triedAction) (triedRows := triedRows) (triedRow := triedRow) (unit := unit) (facts := facts) (numN := numN) (numD := numD) (oldFacts := oldFacts) (oldN := oldN) (oldD := oldD) (point := point) (judged := judged) (fault := fault) (faultPoint := faultPoint) (toldFacts := toldFacts) (toldN := toldN) (toldD := toldD) (outN := outN) (outD := outD) (pointN := pointN) (pointD := pointD) (gone := gone) (now := now) (leastN := leastN) (leastD := leastD) (greatestN := greatestN) (greatestD := greatestD) (events := events) hp hw wT wU wV hrow hu hE hL hG hi n (i + 1) t A b (by omega) (by omega) hi1 (by omega) (fun i' k' z1 z2 z3 z4 => hE1 i' k' z1 z2 z3 (by omega))
    obtain ⟨t3, A3, i1, i2, ht3⟩ := ih (i + 1) t2 A2 (b + 24000000000) (by omega) (by omega) (j1.mono (by omega)) (by omega) (fun i' k' z1 z2 z3 z4 => j2 i' k' z1 z2 z3 (by omega))
    refine ⟨t3, A3, i1.mono (by omega), i2, fun o mem1 hg => ?_⟩
    refine Rg.step 5 F_Mo_liftAll_4 rfl (fun _ => rfl) ?_
    refine Rg.step 6 F_Mo_liftAll_5 rfl (fun _ => rfl) ?_
    refine Rg.getf 9 F_Mo_liftAll_6 rfl rF_26_283 (gM hp) rfl ?_
    refine Rg.icgeI 96 12 F_Mo_liftAll_9 rfl rfl (by omega) (by omega) (fun h9 => by omega) (fun _ => ?_)
    refine Rg.step 13 F_Mo_liftAll_12 rfl (fun _ => rfl) ?_
    refine Rg.step 14 F_Mo_liftAll_13 rfl (fun _ => rfl) ?_
    refine Rg.addI 15 F_Mo_liftAll_14 rfl ?_
    refine Rg.step 16 F_Mo_liftAll_15 rfl (fun _ => rfl) ?_
    refine Rg.weak (ht2 o mem1 ?_) (by simp [lput1, lput2, Value.category, fi0, fi1, fi2, fi3] <;> first | rfl | exact ⟨rfl, rfl⟩) (by simp [lput1, lput2, Value.category, fi0, fi1, fi2, fi3] <;> first | rfl | exact ⟨rfl, rfl⟩)
    refine Rg.inc 93 F_Mo_liftAll_90 rfl rfl (by decide) ?_
    refine Rg.step 4 F_Mo_liftAll_93 rfl (fun _ => rfl) ?_
    exact Rg.weak (ht3 o mem1 hg) (by simp [lput1, lput2, Value.category, fi0, fi1, fi2, fi3] <;> first | rfl | exact ⟨rfl, rfl⟩) (by simp [lput1, lput2, Value.category, fi0, fi1, fi2, fi3] <;> first | rfl | exact ⟨rfl, rfl⟩)
theorem lift_sp {d n0 : Nat} (hp : pre.length = 168) (hw : WT epsilonN epsilonD wishes wants wantN wantD actions needs needTime needOf needHow needN needD changes changeTime changeOf changeHow changeN changeD lastOf lastN lastD firstN firstD) (wT : ∀ s, 0 ≤ triedAction s ∧ triedAction s < 12) (wU : 0 ≤ tried ∧ tried ≤ 12) (wV : 0 ≤ triedRows ∧ triedRows ≤ 24) (hrow : ∀ k, 0 ≤ k → k < triedRows → 0 ≤ triedRow k ∧ triedRow k < 2 * tried) (hu : 0 < unit ∧ unit ≤ 100000) (hE : 0 ≤ (epsilonN * (unit / epsilonD)) ∧ (epsilonN * (unit / epsilonD)) ≤ 1000000000) (hL : ∀ s, 0 ≤ s → s < tried → (0 ≤ leastN s * (unit / leastD s) ∧ leastN s * (unit / leastD s) ≤ 1000000000) ∧ 0 < leastD s ∧ leastD s < 9223372036854775808) (hG : ∀ s, 0 ≤ s → s < tried → (0 ≤ greatestD s ∧ greatestD s < 9223372036854775808) ∧ (-9223372036854775808 ≤ greatestN s ∧ greatestN s < 9223372036854775808) ∧ (¬ greatestD s = 0 → 0 ≤ greatestN s → 0 ≤ greatestN s * (unit / greatestD s) ∧ greatestN s * (unit / greatestD s) ≤ 1000000000)) {t0 : Int → Int} : ∀ (n : Nat) (s : Int) (t : Int → Int) (A : Prop) (b : Int), s + n = tried → 0 ≤ s → LInv (2 * tried) (Sol tried triedRows triedRow (intP triedAction needs needTime needHow needOf lastOf changes changeTime changeHow changeOf) (epsilonN * (unit / epsilonD)) (fun s => leastN s * (unit / leastD s)) (fun s => ¬ greatestD s = 0) (fun s => if greatestN s < 0 then -1 else greatestN s * (unit / greatestD s))) t0 t A b → 0 ≤ b ∧ b + 2000000000 * (n : Int) ≤ 1000000000000000 → (∀ r, 0 ≤ r → r < s → t0 (2 * r) + leastN r * (unit / leastD r) ≤ t (2 * r + 1) ∧ (¬ greatestD r = 0 → t0 (2 * r + 1) - (if greatestN r < 0 then -1 else greatestN r * (unit / greatestD r)) ≤ t (2 * r))) → ∃ t1 A1, LInv (2 * tried) (Sol tried triedRows triedRow (intP triedAction needs needTime needHow needOf lastOf changes changeTime changeHow changeOf) (epsilonN * (unit / epsilonD)) (fun s => leastN s * (unit / leastD s)) (fun s => ¬ greatestD s = 0) (fun s => if greatestN s < 0 then -1 else greatestN s * (unit / greatestD s))) t0 t1 A1 (b + 2000000000 * (n : Int)) ∧ (∀ r, 0 ≤ r → r < tried → t0 (2 * r) + leastN r * (unit / leastD r) ≤ t1 (2 * r + 1) ∧ (¬ greatestD r = 0 → t0 (2 * r + 1) - (if greatestN r < 0 then -1 else greatestN r * (unit / greatestD r)) ≤ t1 (2 * r))) ∧ (∀ p, t p ≤ t1 p) ∧ Rg false (d + 5) m_Mo_liftAll n0 98 [(2, .int (iI s)), (1, .int (bP A)), (0, .ref 168)] [] (MR pre code amountN amountD momentN momentD epsilonN epsilonD firstFacts firstN firstD wishes wants wantN wantD actions needs needTime needOf needHow needN needD changes changeTime changeOf changeHow changeN changeD lastOf lastN lastD steps stepAction startN startD lengthN lengthD rows row tried triedAction triedRows triedRow t unit facts numN numD oldFacts oldN oldD point judged fault faultPoint toldFacts toldN toldD outN outD pointN pointD gone now leastN leastD greatestN greatestD events post) (.inl (some (.int (bP A1)))) (MR pre code amountN amountD momentN momentD epsilonN epsilonD firstFacts firstN firstD wishes wants wantN wantD actions needs needTime needOf needHow needN needD changes changeTime changeOf changeHow changeN changeD lastOf lastN lastD steps stepAction startN startD lengthN lengthD rows row tried triedAction triedRows triedRow t1 unit facts numN numD oldFacts oldN oldD point judged fault faultPoint toldFacts toldN toldD outN outD pointN pointD gone now leastN leastD greatestN greatestD events post) := by
  intro n
  induction n with
  | zero =>
    intro s t A b hk hk2 hi1 hb hE1
    have hk : s = tried := by omega
    subst hk
    refine ⟨t, A, hi1.mono (by omega), hE1, fun p => Int.le_refl _, ?_⟩
    refine Rg.step 99 F_Mo_liftAll_98 rfl (fun _ => rfl) ?_
    refine Rg.step 100 F_Mo_liftAll_99 rfl (fun _ => rfl) ?_
    refine Rg.getf 103 F_Mo_liftAll_100 rfl rF_26_280 (gM hp) rfl ?_
    refine Rg.icgeI 231 106 F_Mo_liftAll_103 rfl rfl (by omega) (by omega) (fun _ => ?_) (fun h103 => by omega)
    refine Rg.step 232 F_Mo_liftAll_231 rfl (fun _ => rfl) ?_
    exact Rg.retP F_Mo_liftAll_232 rfl Iff.rfl rfl
  | succ n ih =>
    intro s t A b hk hk2 hi1 hb hE1
    have l1 := hL s hk2 (by omega)
    obtain ⟨g1, g2, g3⟩ := hG s hk2 (by omega)
    have t1 := hi1.2.2.2.1 (2 * s)
    have t2 := hi1.2.2.2.1 (2 * s + 1)
    have hn := hi1.lf (p := 2 * s + 1) (v := t (2 * s) + (leastN s * (unit / leastD s))) (b1 := b + 1000000000) (by omega) (fun u z1 z2 => by
      have y1 := z1.2.2.1 s hk2 (by omega)
      have y2 := z2 (2 * s)
      dsimp only at y1
      omega) (by omega) (by omega)
    have t3 := hn.2.2.2.1 (2 * s)
    have t4 := hn.2.2.2.1 (2 * s + 1)
    have t5 := lf_ge t (2 * s + 1) (t (2 * s) + (leastN s * (unit / leastD s)))
    by_cases hz : greatestD s = 0
    · obtain ⟨t9, A9, i1, i2, i3, ht⟩ := ih (s + 1) (lft t (2 * s + 1) (t (2 * s) + leastN s * (unit / leastD s))) (A ∨ t (2 * s + 1) < t (2 * s) + leastN s * (unit / leastD s)) (b + 1000000000) (by omega) (by omega) hn (by omega) (fun r z1 z2 => by
        by_cases hq : r = s
        · rw [hq]
          have y2 := hi1.1 (2 * s)
          exact ⟨by omega, fun z => absurd hz z⟩
        · have y3 := hE1 r z1 (by omega)
          exact ⟨Int.le_trans y3.1 (lf_le _ _ _ _), fun z => Int.le_trans (y3.2 z) (lf_le _ _ _ _)⟩)
      refine ⟨t9, A9, i1.mono (by omega), i2, fun p => Int.le_trans (lf_le _ _ _ _) (i3 p), ?_⟩
      refine Rg.step 99 F_Mo_liftAll_98 rfl (fun _ => rfl) ?_
      refine Rg.step 100 F_Mo_liftAll_99 rfl (fun _ => rfl) ?_
      refine Rg.getf 103 F_Mo_liftAll_100 rfl rF_26_280 (gM hp) rfl ?_
      refine Rg.icgeI 231 106 F_Mo_liftAll_103 rfl rfl (by omega) (by omega) (fun h103 => by omega) (fun _ => ?_)
      refine Rg.step 107 F_Mo_liftAll_106 rfl (fun _ => rfl) ?_
      refine Rg.step 108 F_Mo_liftAll_107 rfl (fun _ => rfl) ?_
      refine Rg.step 109 F_Mo_liftAll_108 rfl (fun _ => rfl) ?_
      refine Rg.step 110 F_Mo_liftAll_109 rfl (fun _ => rfl) ?_
      refine Rg.mulI 111 F_Mo_liftAll_110 rfl ?_
      refine Rg.step 112 F_Mo_liftAll_111 rfl (fun _ => rfl) ?_
      refine Rg.addI 113 F_Mo_liftAll_112 rfl ?_
      refine Rg.step 114 F_Mo_liftAll_113 rfl (fun _ => rfl) ?_
      refine Rg.getf 117 F_Mo_liftAll_114 rfl rF_26_117 (gM hp) rfl ?_
      refine Rg.step 118 F_Mo_liftAll_117 rfl (fun _ => rfl) ?_
      refine Rg.step 119 F_Mo_liftAll_118 rfl (fun _ => rfl) ?_
      refine Rg.mulI 120 F_Mo_liftAll_119 rfl ?_
      refine Rg.lld 121 F_Mo_liftAll_120 rfl (gR_times hp) (by omega) (by decide) ?_
      refine Rg.step 122 F_Mo_liftAll_121 rfl (fun _ => rfl) ?_
      refine Rg.step 123 F_Mo_liftAll_122 rfl (fun _ => rfl) ?_
      refine Rg.getf 126 F_Mo_liftAll_123 rfl rF_26_163 (gM hp) rfl ?_
      refine Rg.step 127 F_Mo_liftAll_126 rfl (fun _ => rfl) ?_
      refine Rg.lld 128 F_Mo_liftAll_127 rfl (gR_leastN hp) (by omega) (by decide) ?_
      refine Rg.step 129 F_Mo_liftAll_128 rfl (fun _ => rfl) ?_
      refine Rg.getf 132 F_Mo_liftAll_129 rfl rF_26_166 (gM hp) rfl ?_
      refine Rg.step 133 F_Mo_liftAll_132 rfl (fun _ => rfl) ?_
      refine Rg.lld 134 F_Mo_liftAll_133 rfl (gR_leastD hp) (by omega) (by decide) ?_
      refine Rg.call 137 F_Mo_liftAll_134 rfl (one_V rM_26_367 (by decide) (by simp) rfl rfl (gM hp) rfl) (Nat.le_of_ble_eq_true rfl) (Cg.any (c_Mo_units hp hu (by omega))) ?_
      refine Rg.addL 138 F_Mo_liftAll_137 rfl ?_
      refine Rg.call 141 F_Mo_liftAll_138 rfl (one_V rM_26_370 (by decide) (by simp) rfl rfl (gM hp) rfl) (Nat.le_of_ble_eq_true rfl) (c_Mo_lift hp (by omega) (by omega) (by omega)) ?_
      refine Rg.orP 142 F_Mo_liftAll_141 rfl ?_
      refine Rg.step 143 F_Mo_liftAll_142 rfl (fun _ => rfl) ?_
      refine Rg.step 144 F_Mo_liftAll_143 rfl (fun _ => rfl) ?_
      refine Rg.getf 147 F_Mo_liftAll_144 rfl rF_26_169 (gM hp) rfl ?_
      refine Rg.step 148 F_Mo_liftAll_147 rfl (fun _ => rfl) ?_
      refine Rg.lld 149 F_Mo_liftAll_148 rfl (gR_greatestN hp) (by omega) (by decide) ?_
      refine Rg.lcn (n := 0) 150 F_Mo_liftAll_149 rfl rfl ?_
      refine Rg.lcge 160 154 F_Mo_liftAll_150 F_Mo_liftAll_151 rfl rfl (by omega) (by omega) (fun h150 => ?_) (fun h150 => ?_)
      · refine Rg.step 161 F_Mo_liftAll_160 rfl (fun _ => rfl) ?_
        refine Rg.getf 164 F_Mo_liftAll_161 rfl rF_26_172 (gM hp) rfl ?_
        refine Rg.step 165 F_Mo_liftAll_164 rfl (fun _ => rfl) ?_
        refine Rg.lld 166 F_Mo_liftAll_165 rfl (gR_greatestD hp) (by omega) (by decide) ?_
        refine Rg.lcn (n := 0) 167 F_Mo_liftAll_166 rfl rfl ?_
        refine Rg.lcle 190 171 F_Mo_liftAll_167 F_Mo_liftAll_168 rfl rfl (by omega) (by omega) (fun _ => ?_) (fun h167 => by omega)
        refine Rg.lcn (n := 0) 191 F_Mo_liftAll_190 rfl rfl ?_
        refine Rg.step 192 F_Mo_liftAll_191 rfl (fun _ => rfl) ?_
        refine Rg.step 193 F_Mo_liftAll_192 rfl (fun _ => rfl) ?_
        refine Rg.getf 196 F_Mo_liftAll_193 rfl rF_26_172 (gM hp) rfl ?_
        refine Rg.step 197 F_Mo_liftAll_196 rfl (fun _ => rfl) ?_
        refine Rg.lld 198 F_Mo_liftAll_197 rfl (gR_greatestD hp) (by omega) (by decide) ?_
        refine Rg.lcn (n := 0) 199 F_Mo_liftAll_198 rfl rfl ?_
        refine Rg.lcle 225 203 F_Mo_liftAll_199 F_Mo_liftAll_200 rfl rfl (by omega) (by omega) (fun _ => ?_) (fun h199 => by omega)
        refine Rg.inc 228 F_Mo_liftAll_225 rfl rfl (by decide) ?_
        refine Rg.step 98 F_Mo_liftAll_228 rfl (fun _ => rfl) ?_
        exact Rg.weak ht (by simp [lput1, lput2, Value.category, fi0, fi1, fi2, fi3] <;> first | rfl | exact ⟨rfl, rfl⟩) (by simp [lput1, lput2, Value.category, fi0, fi1, fi2, fi3] <;> first | rfl | exact ⟨rfl, rfl⟩)
      · refine Rg.ldc2 (n := -1) 157 F_Mo_liftAll_154 rfl rJ_26_374 rfl ?_
        refine Rg.step 191 F_Mo_liftAll_157 rfl (fun _ => rfl) ?_
        refine Rg.step 192 F_Mo_liftAll_191 rfl (fun _ => rfl) ?_
        refine Rg.step 193 F_Mo_liftAll_192 rfl (fun _ => rfl) ?_
        refine Rg.getf 196 F_Mo_liftAll_193 rfl rF_26_172 (gM hp) rfl ?_
        refine Rg.step 197 F_Mo_liftAll_196 rfl (fun _ => rfl) ?_
        refine Rg.lld 198 F_Mo_liftAll_197 rfl (gR_greatestD hp) (by omega) (by decide) ?_
        refine Rg.lcn (n := 0) 199 F_Mo_liftAll_198 rfl rfl ?_
        refine Rg.lcle 225 203 F_Mo_liftAll_199 F_Mo_liftAll_200 rfl rfl (by omega) (by omega) (fun _ => ?_) (fun h199 => by omega)
        refine Rg.inc 228 F_Mo_liftAll_225 rfl rfl (by decide) ?_
        refine Rg.step 98 F_Mo_liftAll_228 rfl (fun _ => rfl) ?_
        exact Rg.weak ht (by simp [lput1, lput2, Value.category, fi0, fi1, fi2, fi3] <;> first | rfl | exact ⟨rfl, rfl⟩) (by simp [lput1, lput2, Value.category, fi0, fi1, fi2, fi3] <;> first | rfl | exact ⟨rfl, rfl⟩)
    · by_cases hneg : greatestN s < 0
      · skip
        have hm : (if greatestN s < 0 then -1 else greatestN s * (unit / greatestD s)) = (-1) := if_pos hneg
        have hn2 := hn.lf (p := 2 * s) (v := ((lft t (2 * s + 1) (t (2 * s) + leastN s * (unit / leastD s))) (2 * s + 1) - (-1))) (b1 := b + 2000000000) (by omega) (fun u z1 z2 => by
          have y1 := z1.2.2.2 s hk2 (by omega) hz
          have y2 := z2 (2 * s + 1)
          dsimp only at y1
          rw [hm] at y1
          omega) (by omega) (by omega)
        have t6 := lf_ge (lft t (2 * s + 1) (t (2 * s) + leastN s * (unit / leastD s))) (2 * s) ((lft t (2 * s + 1) (t (2 * s) + leastN s * (unit / leastD s))) (2 * s + 1) - (-1))
        obtain ⟨t9, A9, i1, i2, i3, ht⟩ := ih (s + 1) (lft (lft t (2 * s + 1) (t (2 * s) + leastN s * (unit / leastD s))) (2 * s) ((lft t (2 * s + 1) (t (2 * s) + leastN s * (unit / leastD s))) (2 * s + 1) - (-1))) ((A ∨ t (2 * s + 1) < t (2 * s) + leastN s * (unit / leastD s)) ∨ (lft t (2 * s + 1) (t (2 * s) + leastN s * (unit / leastD s))) (2 * s) < ((lft t (2 * s + 1) (t (2 * s) + leastN s * (unit / leastD s))) (2 * s + 1) - (-1))) (b + 2000000000) (by omega) (by omega) hn2 (by omega) (fun r z1 z2 => by
          by_cases hq : r = s
          · rw [hq]
            have y1 := hi1.1 (2 * s)
            have y2 := hn.1 (2 * s + 1)
            have y3 := lf_le (lft t (2 * s + 1) (t (2 * s) + leastN s * (unit / leastD s))) (2 * s) ((lft t (2 * s + 1) (t (2 * s) + leastN s * (unit / leastD s))) (2 * s + 1) - (-1)) (2 * s + 1)
            rw [hm]
            exact ⟨by omega, fun _ => by omega⟩
          · have y3 := hE1 r z1 (by omega)
            exact ⟨Int.le_trans y3.1 (Int.le_trans (lf_le _ _ _ _) (lf_le _ _ _ _)), fun z => Int.le_trans (y3.2 z) (Int.le_trans (lf_le _ _ _ _) (lf_le _ _ _ _))⟩)
        refine ⟨t9, A9, i1.mono (by omega), i2, fun p => Int.le_trans (Int.le_trans (lf_le _ _ _ _) (lf_le _ _ _ _)) (i3 p), ?_⟩
        refine Rg.step 99 F_Mo_liftAll_98 rfl (fun _ => rfl) ?_
        refine Rg.step 100 F_Mo_liftAll_99 rfl (fun _ => rfl) ?_
        refine Rg.getf 103 F_Mo_liftAll_100 rfl rF_26_280 (gM hp) rfl ?_
        refine Rg.icgeI 231 106 F_Mo_liftAll_103 rfl rfl (by omega) (by omega) (fun h103 => by omega) (fun _ => ?_)
        refine Rg.step 107 F_Mo_liftAll_106 rfl (fun _ => rfl) ?_
        refine Rg.step 108 F_Mo_liftAll_107 rfl (fun _ => rfl) ?_
        refine Rg.step 109 F_Mo_liftAll_108 rfl (fun _ => rfl) ?_
        refine Rg.step 110 F_Mo_liftAll_109 rfl (fun _ => rfl) ?_
        refine Rg.mulI 111 F_Mo_liftAll_110 rfl ?_
        refine Rg.step 112 F_Mo_liftAll_111 rfl (fun _ => rfl) ?_
        refine Rg.addI 113 F_Mo_liftAll_112 rfl ?_
        refine Rg.step 114 F_Mo_liftAll_113 rfl (fun _ => rfl) ?_
        refine Rg.getf 117 F_Mo_liftAll_114 rfl rF_26_117 (gM hp) rfl ?_
        refine Rg.step 118 F_Mo_liftAll_117 rfl (fun _ => rfl) ?_
        refine Rg.step 119 F_Mo_liftAll_118 rfl (fun _ => rfl) ?_
        refine Rg.mulI 120 F_Mo_liftAll_119 rfl ?_
        refine Rg.lld 121 F_Mo_liftAll_120 rfl (gR_times hp) (by omega) (by decide) ?_
        refine Rg.step 122 F_Mo_liftAll_121 rfl (fun _ => rfl) ?_
        refine Rg.step 123 F_Mo_liftAll_122 rfl (fun _ => rfl) ?_
        refine Rg.getf 126 F_Mo_liftAll_123 rfl rF_26_163 (gM hp) rfl ?_
        refine Rg.step 127 F_Mo_liftAll_126 rfl (fun _ => rfl) ?_
        refine Rg.lld 128 F_Mo_liftAll_127 rfl (gR_leastN hp) (by omega) (by decide) ?_
        refine Rg.step 129 F_Mo_liftAll_128 rfl (fun _ => rfl) ?_
        refine Rg.getf 132 F_Mo_liftAll_129 rfl rF_26_166 (gM hp) rfl ?_
        refine Rg.step 133 F_Mo_liftAll_132 rfl (fun _ => rfl) ?_
        refine Rg.lld 134 F_Mo_liftAll_133 rfl (gR_leastD hp) (by omega) (by decide) ?_
        refine Rg.call 137 F_Mo_liftAll_134 rfl (one_V rM_26_367 (by decide) (by simp) rfl rfl (gM hp) rfl) (Nat.le_of_ble_eq_true rfl) (Cg.any (c_Mo_units hp hu (by omega))) ?_
        refine Rg.addL 138 F_Mo_liftAll_137 rfl ?_
        refine Rg.call 141 F_Mo_liftAll_138 rfl (one_V rM_26_370 (by decide) (by simp) rfl rfl (gM hp) rfl) (Nat.le_of_ble_eq_true rfl) (c_Mo_lift hp (by omega) (by omega) (by omega)) ?_
        refine Rg.orP 142 F_Mo_liftAll_141 rfl ?_
        refine Rg.step 143 F_Mo_liftAll_142 rfl (fun _ => rfl) ?_
        refine Rg.step 144 F_Mo_liftAll_143 rfl (fun _ => rfl) ?_
        refine Rg.getf 147 F_Mo_liftAll_144 rfl rF_26_169 (gM hp) rfl ?_
        refine Rg.step 148 F_Mo_liftAll_147 rfl (fun _ => rfl) ?_
        refine Rg.lld 149 F_Mo_liftAll_148 rfl (gR_greatestN hp) (by omega) (by decide) ?_
        refine Rg.lcn (n := 0) 150 F_Mo_liftAll_149 rfl rfl ?_
        refine Rg.lcge 160 154 F_Mo_liftAll_150 F_Mo_liftAll_151 rfl rfl (by omega) (by omega) (fun h150 => by omega) (fun _ => ?_)
        refine Rg.ldc2 (n := -1) 157 F_Mo_liftAll_154 rfl rJ_26_374 rfl ?_
        refine Rg.step 191 F_Mo_liftAll_157 rfl (fun _ => rfl) ?_
        refine Rg.step 192 F_Mo_liftAll_191 rfl (fun _ => rfl) ?_
        refine Rg.step 193 F_Mo_liftAll_192 rfl (fun _ => rfl) ?_
        refine Rg.getf 196 F_Mo_liftAll_193 rfl rF_26_172 (gM hp) rfl ?_
        refine Rg.step 197 F_Mo_liftAll_196 rfl (fun _ => rfl) ?_
        refine Rg.lld 198 F_Mo_liftAll_197 rfl (gR_greatestD hp) (by omega) (by decide) ?_
        refine Rg.lcn (n := 0) 199 F_Mo_liftAll_198 rfl rfl ?_
        refine Rg.lcle 225 203 F_Mo_liftAll_199 F_Mo_liftAll_200 rfl rfl (by omega) (by omega) (fun h199 => by omega) (fun _ => ?_)
        refine Rg.step 204 F_Mo_liftAll_203 rfl (fun _ => rfl) ?_
        refine Rg.step 205 F_Mo_liftAll_204 rfl (fun _ => rfl) ?_
        refine Rg.step 206 F_Mo_liftAll_205 rfl (fun _ => rfl) ?_
        refine Rg.step 207 F_Mo_liftAll_206 rfl (fun _ => rfl) ?_
        refine Rg.mulI 208 F_Mo_liftAll_207 rfl ?_
        refine Rg.step 209 F_Mo_liftAll_208 rfl (fun _ => rfl) ?_
        refine Rg.getf 212 F_Mo_liftAll_209 rfl rF_26_117 (gM hp) rfl ?_
        refine Rg.step 213 F_Mo_liftAll_212 rfl (fun _ => rfl) ?_
        refine Rg.step 214 F_Mo_liftAll_213 rfl (fun _ => rfl) ?_
        refine Rg.mulI 215 F_Mo_liftAll_214 rfl ?_
        refine Rg.step 216 F_Mo_liftAll_215 rfl (fun _ => rfl) ?_
        refine Rg.addI 217 F_Mo_liftAll_216 rfl ?_
        refine Rg.lld 218 F_Mo_liftAll_217 rfl (gR_times hp) (by omega) (by decide) ?_
        refine Rg.step 219 F_Mo_liftAll_218 rfl (fun _ => rfl) ?_
        refine Rg.subL 220 F_Mo_liftAll_219 rfl ?_
        refine Rg.call 223 F_Mo_liftAll_220 rfl (one_V rM_26_370 (by decide) (by simp) rfl rfl (gM hp) rfl) (Nat.le_of_ble_eq_true rfl) (c_Mo_lift hp (by omega) (by omega) (by omega)) ?_
        refine Rg.orP 224 F_Mo_liftAll_223 rfl ?_
        refine Rg.step 225 F_Mo_liftAll_224 rfl (fun _ => rfl) ?_
        refine Rg.inc 228 F_Mo_liftAll_225 rfl rfl (by decide) ?_
        refine Rg.step 98 F_Mo_liftAll_228 rfl (fun _ => rfl) ?_
        exact Rg.weak ht (by simp [lput1, lput2, Value.category, fi0, fi1, fi2, fi3] <;> first | rfl | exact ⟨rfl, rfl⟩) (by simp [lput1, lput2, Value.category, fi0, fi1, fi2, fi3] <;> first | rfl | exact ⟨rfl, rfl⟩)
      · have g4 := g3 hz (by omega)
        have hm : (if greatestN s < 0 then -1 else greatestN s * (unit / greatestD s)) = (greatestN s * (unit / greatestD s)) := if_neg hneg
        have hn2 := hn.lf (p := 2 * s) (v := ((lft t (2 * s + 1) (t (2 * s) + leastN s * (unit / leastD s))) (2 * s + 1) - (greatestN s * (unit / greatestD s)))) (b1 := b + 2000000000) (by omega) (fun u z1 z2 => by
          have y1 := z1.2.2.2 s hk2 (by omega) hz
          have y2 := z2 (2 * s + 1)
          dsimp only at y1
          rw [hm] at y1
          omega) (by omega) (by omega)
        have t6 := lf_ge (lft t (2 * s + 1) (t (2 * s) + leastN s * (unit / leastD s))) (2 * s) ((lft t (2 * s + 1) (t (2 * s) + leastN s * (unit / leastD s))) (2 * s + 1) - (greatestN s * (unit / greatestD s)))
        obtain ⟨t9, A9, i1, i2, i3, ht⟩ := ih (s + 1) (lft (lft t (2 * s + 1) (t (2 * s) + leastN s * (unit / leastD s))) (2 * s) ((lft t (2 * s + 1) (t (2 * s) + leastN s * (unit / leastD s))) (2 * s + 1) - (greatestN s * (unit / greatestD s)))) ((A ∨ t (2 * s + 1) < t (2 * s) + leastN s * (unit / leastD s)) ∨ (lft t (2 * s + 1) (t (2 * s) + leastN s * (unit / leastD s))) (2 * s) < ((lft t (2 * s + 1) (t (2 * s) + leastN s * (unit / leastD s))) (2 * s + 1) - (greatestN s * (unit / greatestD s)))) (b + 2000000000) (by omega) (by omega) hn2 (by omega) (fun r z1 z2 => by
          by_cases hq : r = s
          · rw [hq]
            have y1 := hi1.1 (2 * s)
            have y2 := hn.1 (2 * s + 1)
            have y3 := lf_le (lft t (2 * s + 1) (t (2 * s) + leastN s * (unit / leastD s))) (2 * s) ((lft t (2 * s + 1) (t (2 * s) + leastN s * (unit / leastD s))) (2 * s + 1) - (greatestN s * (unit / greatestD s))) (2 * s + 1)
            rw [hm]
            exact ⟨by omega, fun _ => by omega⟩
          · have y3 := hE1 r z1 (by omega)
            exact ⟨Int.le_trans y3.1 (Int.le_trans (lf_le _ _ _ _) (lf_le _ _ _ _)), fun z => Int.le_trans (y3.2 z) (Int.le_trans (lf_le _ _ _ _) (lf_le _ _ _ _))⟩)
        refine ⟨t9, A9, i1.mono (by omega), i2, fun p => Int.le_trans (Int.le_trans (lf_le _ _ _ _) (lf_le _ _ _ _)) (i3 p), ?_⟩
        refine Rg.step 99 F_Mo_liftAll_98 rfl (fun _ => rfl) ?_
        refine Rg.step 100 F_Mo_liftAll_99 rfl (fun _ => rfl) ?_
        refine Rg.getf 103 F_Mo_liftAll_100 rfl rF_26_280 (gM hp) rfl ?_
        refine Rg.icgeI 231 106 F_Mo_liftAll_103 rfl rfl (by omega) (by omega) (fun h103 => by omega) (fun _ => ?_)
        refine Rg.step 107 F_Mo_liftAll_106 rfl (fun _ => rfl) ?_
        refine Rg.step 108 F_Mo_liftAll_107 rfl (fun _ => rfl) ?_
        refine Rg.step 109 F_Mo_liftAll_108 rfl (fun _ => rfl) ?_
        refine Rg.step 110 F_Mo_liftAll_109 rfl (fun _ => rfl) ?_
        refine Rg.mulI 111 F_Mo_liftAll_110 rfl ?_
        refine Rg.step 112 F_Mo_liftAll_111 rfl (fun _ => rfl) ?_
        refine Rg.addI 113 F_Mo_liftAll_112 rfl ?_
        refine Rg.step 114 F_Mo_liftAll_113 rfl (fun _ => rfl) ?_
        refine Rg.getf 117 F_Mo_liftAll_114 rfl rF_26_117 (gM hp) rfl ?_
        refine Rg.step 118 F_Mo_liftAll_117 rfl (fun _ => rfl) ?_
        refine Rg.step 119 F_Mo_liftAll_118 rfl (fun _ => rfl) ?_
        refine Rg.mulI 120 F_Mo_liftAll_119 rfl ?_
        refine Rg.lld 121 F_Mo_liftAll_120 rfl (gR_times hp) (by omega) (by decide) ?_
        refine Rg.step 122 F_Mo_liftAll_121 rfl (fun _ => rfl) ?_
        refine Rg.step 123 F_Mo_liftAll_122 rfl (fun _ => rfl) ?_
        refine Rg.getf 126 F_Mo_liftAll_123 rfl rF_26_163 (gM hp) rfl ?_
        refine Rg.step 127 F_Mo_liftAll_126 rfl (fun _ => rfl) ?_
        refine Rg.lld 128 F_Mo_liftAll_127 rfl (gR_leastN hp) (by omega) (by decide) ?_
        refine Rg.step 129 F_Mo_liftAll_128 rfl (fun _ => rfl) ?_
        refine Rg.getf 132 F_Mo_liftAll_129 rfl rF_26_166 (gM hp) rfl ?_
        refine Rg.step 133 F_Mo_liftAll_132 rfl (fun _ => rfl) ?_
        refine Rg.lld 134 F_Mo_liftAll_133 rfl (gR_leastD hp) (by omega) (by decide) ?_
        refine Rg.call 137 F_Mo_liftAll_134 rfl (one_V rM_26_367 (by decide) (by simp) rfl rfl (gM hp) rfl) (Nat.le_of_ble_eq_true rfl) (Cg.any (c_Mo_units hp hu (by omega))) ?_
        refine Rg.addL 138 F_Mo_liftAll_137 rfl ?_
        refine Rg.call 141 F_Mo_liftAll_138 rfl (one_V rM_26_370 (by decide) (by simp) rfl rfl (gM hp) rfl) (Nat.le_of_ble_eq_true rfl) (c_Mo_lift hp (by omega) (by omega) (by omega)) ?_
        refine Rg.orP 142 F_Mo_liftAll_141 rfl ?_
        refine Rg.step 143 F_Mo_liftAll_142 rfl (fun _ => rfl) ?_
        refine Rg.step 144 F_Mo_liftAll_143 rfl (fun _ => rfl) ?_
        refine Rg.getf 147 F_Mo_liftAll_144 rfl rF_26_169 (gM hp) rfl ?_
        refine Rg.step 148 F_Mo_liftAll_147 rfl (fun _ => rfl) ?_
        refine Rg.lld 149 F_Mo_liftAll_148 rfl (gR_greatestN hp) (by omega) (by decide) ?_
        refine Rg.lcn (n := 0) 150 F_Mo_liftAll_149 rfl rfl ?_
        refine Rg.lcge 160 154 F_Mo_liftAll_150 F_Mo_liftAll_151 rfl rfl (by omega) (by omega) (fun _ => ?_) (fun h150 => by omega)
        refine Rg.step 161 F_Mo_liftAll_160 rfl (fun _ => rfl) ?_
        refine Rg.getf 164 F_Mo_liftAll_161 rfl rF_26_172 (gM hp) rfl ?_
        refine Rg.step 165 F_Mo_liftAll_164 rfl (fun _ => rfl) ?_
        refine Rg.lld 166 F_Mo_liftAll_165 rfl (gR_greatestD hp) (by omega) (by decide) ?_
        refine Rg.lcn (n := 0) 167 F_Mo_liftAll_166 rfl rfl ?_
        refine Rg.lcle 190 171 F_Mo_liftAll_167 F_Mo_liftAll_168 rfl rfl (by omega) (by omega) (fun h167 => by omega) (fun _ => ?_)
        refine Rg.step 172 F_Mo_liftAll_171 rfl (fun _ => rfl) ?_
        refine Rg.step 173 F_Mo_liftAll_172 rfl (fun _ => rfl) ?_
        refine Rg.getf 176 F_Mo_liftAll_173 rfl rF_26_169 (gM hp) rfl ?_
        refine Rg.step 177 F_Mo_liftAll_176 rfl (fun _ => rfl) ?_
        refine Rg.lld 178 F_Mo_liftAll_177 rfl (gR_greatestN hp) (by omega) (by decide) ?_
        refine Rg.step 179 F_Mo_liftAll_178 rfl (fun _ => rfl) ?_
        refine Rg.getf 182 F_Mo_liftAll_179 rfl rF_26_172 (gM hp) rfl ?_
        refine Rg.step 183 F_Mo_liftAll_182 rfl (fun _ => rfl) ?_
        refine Rg.lld 184 F_Mo_liftAll_183 rfl (gR_greatestD hp) (by omega) (by decide) ?_
        refine Rg.call 187 F_Mo_liftAll_184 rfl (one_V rM_26_367 (by decide) (by simp) rfl rfl (gM hp) rfl) (Nat.le_of_ble_eq_true rfl) (Cg.any (c_Mo_units hp hu (by omega))) ?_
        refine Rg.step 191 F_Mo_liftAll_187 rfl (fun _ => rfl) ?_
        refine Rg.step 192 F_Mo_liftAll_191 rfl (fun _ => rfl) ?_
        refine Rg.step 193 F_Mo_liftAll_192 rfl (fun _ => rfl) ?_
        refine Rg.getf 196 F_Mo_liftAll_193 rfl rF_26_172 (gM hp) rfl ?_
        refine Rg.step 197 F_Mo_liftAll_196 rfl (fun _ => rfl) ?_
        refine Rg.lld 198 F_Mo_liftAll_197 rfl (gR_greatestD hp) (by omega) (by decide) ?_
        refine Rg.lcn (n := 0) 199 F_Mo_liftAll_198 rfl rfl ?_
        refine Rg.lcle 225 203 F_Mo_liftAll_199 F_Mo_liftAll_200 rfl rfl (by omega) (by omega) (fun h199 => by omega) (fun _ => ?_)
        refine Rg.step 204 F_Mo_liftAll_203 rfl (fun _ => rfl) ?_
        refine Rg.step 205 F_Mo_liftAll_204 rfl (fun _ => rfl) ?_
        refine Rg.step 206 F_Mo_liftAll_205 rfl (fun _ => rfl) ?_
        refine Rg.step 207 F_Mo_liftAll_206 rfl (fun _ => rfl) ?_
        refine Rg.mulI 208 F_Mo_liftAll_207 rfl ?_
        refine Rg.step 209 F_Mo_liftAll_208 rfl (fun _ => rfl) ?_
        refine Rg.getf 212 F_Mo_liftAll_209 rfl rF_26_117 (gM hp) rfl ?_
        refine Rg.step 213 F_Mo_liftAll_212 rfl (fun _ => rfl) ?_
        refine Rg.step 214 F_Mo_liftAll_213 rfl (fun _ => rfl) ?_
        refine Rg.mulI 215 F_Mo_liftAll_214 rfl ?_
        refine Rg.step 216 F_Mo_liftAll_215 rfl (fun _ => rfl) ?_
        refine Rg.addI 217 F_Mo_liftAll_216 rfl ?_
        refine Rg.lld 218 F_Mo_liftAll_217 rfl (gR_times hp) (by omega) (by decide) ?_
        refine Rg.step 219 F_Mo_liftAll_218 rfl (fun _ => rfl) ?_
        refine Rg.subL 220 F_Mo_liftAll_219 rfl ?_
        refine Rg.call 223 F_Mo_liftAll_220 rfl (one_V rM_26_370 (by decide) (by simp) rfl rfl (gM hp) rfl) (Nat.le_of_ble_eq_true rfl) (c_Mo_lift hp (by omega) (by omega) (by omega)) ?_
        refine Rg.orP 224 F_Mo_liftAll_223 rfl ?_
        refine Rg.step 225 F_Mo_liftAll_224 rfl (fun _ => rfl) ?_
        refine Rg.inc 228 F_Mo_liftAll_225 rfl rfl (by decide) ?_
        refine Rg.step 98 F_Mo_liftAll_228 rfl (fun _ => rfl) ?_
        exact Rg.weak ht (by simp [lput1, lput2, Value.category, fi0, fi1, fi2, fi3] <;> first | rfl | exact ⟨rfl, rfl⟩) (by simp [lput1, lput2, Value.category, fi0, fi1, fi2, fi3] <;> first | rfl | exact ⟨rfl, rfl⟩)
theorem c_Mo_liftAll {d : Nat} (hp : pre.length = 168) (hw : WT epsilonN epsilonD wishes wants wantN wantD actions needs needTime needOf needHow needN needD changes changeTime changeOf changeHow changeN changeD lastOf lastN lastD firstN firstD) (wT : ∀ s, 0 ≤ triedAction s ∧ triedAction s < 12) (wU : 0 ≤ tried ∧ tried ≤ 12) (wV : 0 ≤ triedRows ∧ triedRows ≤ 24) (hrow : ∀ k, 0 ≤ k → k < triedRows → 0 ≤ triedRow k ∧ triedRow k < 2 * tried) (hu : 0 < unit ∧ unit ≤ 100000) (hE : 0 ≤ (epsilonN * (unit / epsilonD)) ∧ (epsilonN * (unit / epsilonD)) ≤ 1000000000) (hL : ∀ s, 0 ≤ s → s < tried → (0 ≤ leastN s * (unit / leastD s) ∧ leastN s * (unit / leastD s) ≤ 1000000000) ∧ 0 < leastD s ∧ leastD s < 9223372036854775808) (hG : ∀ s, 0 ≤ s → s < tried → (0 ≤ greatestD s ∧ greatestD s < 9223372036854775808) ∧ (-9223372036854775808 ≤ greatestN s ∧ greatestN s < 9223372036854775808) ∧ (¬ greatestD s = 0 → 0 ≤ greatestN s → 0 ≤ greatestN s * (unit / greatestD s) ∧ greatestN s * (unit / greatestD s) ≤ 1000000000)) {b : Int} (hb : 0 ≤ b ∧ b ≤ 300000000000000) (ht : ∀ p, 0 ≤ times p ∧ times p ≤ b) : ∃ t1 A1, LInv (2 * tried) (Sol tried triedRows triedRow (intP triedAction needs needTime needHow needOf lastOf changes changeTime changeHow changeOf) (epsilonN * (unit / epsilonD)) (fun s => leastN s * (unit / leastD s)) (fun s => ¬ greatestD s = 0) (fun s => if greatestN s < 0 then -1 else greatestN s * (unit / greatestD s))) times t1 A1 (b + 1000000000000) ∧ consR tried triedRows triedRow (intP triedAction needs needTime needHow needOf lastOf changes changeTime changeHow changeOf) (epsilonN * (unit / epsilonD)) (fun s => leastN s * (unit / leastD s)) (fun s => ¬ greatestD s = 0) (fun s => if greatestN s < 0 then -1 else greatestN s * (unit / greatestD s)) times t1 ∧ Cg false (d + 5) m_Mo_liftAll [.ref 168] (MR pre code amountN amountD momentN momentD epsilonN epsilonD firstFacts firstN firstD wishes wants wantN wantD actions needs needTime needOf needHow needN needD changes changeTime changeOf changeHow changeN changeD lastOf lastN lastD steps stepAction startN startD lengthN lengthD rows row tried triedAction triedRows triedRow times unit facts numN numD oldFacts oldN oldD point judged fault faultPoint toldFacts toldN toldD outN outD pointN pointD gone now leastN leastD greatestN greatestD events post) (.inl (some (.int (bP A1)))) (MR pre code amountN amountD momentN momentD epsilonN epsilonD firstFacts firstN firstD wishes wants wantN wantD actions needs needTime needOf needHow needN needD changes changeTime changeOf changeHow changeN changeD lastOf lastN lastD steps stepAction startN startD lengthN lengthD rows row tried triedAction triedRows triedRow t1 unit facts numN numD oldFacts oldN oldD point judged fault faultPoint toldFacts toldN toldD outN outD pointN pointD gone now leastN leastD greatestN greatestD events post) := by
  have h0 : LInv (2 * tried) (Sol tried triedRows triedRow (intP triedAction needs needTime needHow needOf lastOf changes changeTime changeHow changeOf) (epsilonN * (unit / epsilonD)) (fun s => leastN s * (unit / leastD s)) (fun s => ¬ greatestD s = 0) (fun s => if greatestN s < 0 then -1 else greatestN s * (unit / greatestD s))) times times False b := ⟨fun p => Int.le_refl _, ⟨False.elim, fun z => z rfl⟩, fun u _ z => z, ht, fun p _ => rfl⟩
  obtain ⟨t2, A2, j1, j2, h2⟩ := lift_out (d := d) (n0 := (MR pre code amountN amountD momentN momentD epsilonN epsilonD firstFacts firstN firstD wishes wants wantN wantD actions needs needTime needOf needHow needN needD changes changeTime changeOf changeHow changeN changeD lastOf lastN lastD steps stepAction startN startD lengthN lengthD rows row tried triedAction triedRows triedRow times unit facts numN numD oldFacts oldN oldD point judged fault faultPoint toldFacts toldN toldD outN outD pointN pointD gone now leastN leastD greatestN greatestD events post).length) (pre := pre) (post := post) (code := code) (amountN := amountN) (amountD := amountD) (momentN := momentN) (momentD := momentD) (epsilonN := epsilonN) (epsilonD := epsilonD) (firstFacts := firstFacts) (firstN := firstN) (firstD := firstD) (wishes := wishes) (wants := wants) (wantN := wantN) (wantD := wantD) (actions := actions) (needs := needs) (needTime := needTime) (needOf := needOf) (needHow := needHow) (needN := needN) (needD := needD) (changes := changes) (changeTime := changeTime) (changeOf := changeOf) (changeHow := changeHow) (changeN := changeN) (changeD := changeD) (lastOf := lastOf) (lastN := lastN) (lastD := lastD) (steps := steps) (stepAction := stepAction) (startN := startN) (startD := startD) (lengthN := lengthN) (lengthD := lengthD) (rows := rows) (row := row) (tried := tried) (triedAction := triedAction) (triedRows := triedRows) (triedRow := triedRow) (unit := unit) (facts := facts) (numN := numN) (numD := numD) (oldFacts := oldFacts) (oldN := oldN) (oldD := oldD) (point := point) (judged := judged) (fault := fault) (faultPoint := faultPoint) (toldFacts := toldFacts) (toldN := toldN) (toldD := toldD) (outN := outN) (outD := outD) (pointN := pointN) (pointD := pointD) (gone := gone) (now := now) (leastN := leastN) (leastD := leastD) (greatestN := greatestN) (greatestD := greatestD) (events := events) hp hw wT wU wV hrow hu hE hL hG triedRows.toNat 0 times False b (by omega) (by omega) h0 (by omega) (fun i' k' z1 z2 z3 z4 => by omega)
  obtain ⟨t3, A3, k1, k2, k3, h3⟩ := lift_sp (d := d) (n0 := (MR pre code amountN amountD momentN momentD epsilonN epsilonD firstFacts firstN firstD wishes wants wantN wantD actions needs needTime needOf needHow needN needD changes changeTime changeOf changeHow changeN changeD lastOf lastN lastD steps stepAction startN startD lengthN lengthD rows row tried triedAction triedRows triedRow times unit facts numN numD oldFacts oldN oldD point judged fault faultPoint toldFacts toldN toldD outN outD pointN pointD gone now leastN leastD greatestN greatestD events post).length) (pre := pre) (post := post) (code := code) (amountN := amountN) (amountD := amountD) (momentN := momentN) (momentD := momentD) (epsilonN := epsilonN) (epsilonD := epsilonD) (firstFacts := firstFacts) (firstN := firstN) (firstD := firstD) (wishes := wishes) (wants := wants) (wantN := wantN) (wantD := wantD) (actions := actions) (needs := needs) (needTime := needTime) (needOf := needOf) (needHow := needHow) (needN := needN) (needD := needD) (changes := changes) (changeTime := changeTime) (changeOf := changeOf) (changeHow := changeHow) (changeN := changeN) (changeD := changeD) (lastOf := lastOf) (lastN := lastN) (lastD := lastD) (steps := steps) (stepAction := stepAction) (startN := startN) (startD := startD) (lengthN := lengthN) (lengthD := lengthD) (rows := rows) (row := row) (tried := tried) (triedAction := triedAction) (triedRows := triedRows) (triedRow := triedRow) (unit := unit) (facts := facts) (numN := numN) (numD := numD) (oldFacts := oldFacts) (oldN := oldN) (oldD := oldD) (point := point) (judged := judged) (fault := fault) (faultPoint := faultPoint) (toldFacts := toldFacts) (toldN := toldN) (toldD := toldD) (outN := outN) (outD := outD) (pointN := pointN) (pointD := pointD) (gone := gone) (now := now) (leastN := leastN) (leastD := leastD) (greatestN := greatestN) (greatestD := greatestD) (events := events) hp hw wT wU wV hrow hu hE hL hG tried.toNat 0 t2 A2 (b + 24000000000 * (triedRows.toNat : Int)) (by omega) (by omega) j1 (by omega) (fun r z1 z2 => by omega)
  refine ⟨t3, A3, k1.mono (by omega), ⟨fun i k z1 z2 z3 => Int.le_trans (j2 i k z1 z2 z3 (by omega)) (k3 _), fun s z1 z2 => (k2 s z1 z2).1, fun s z1 z2 z3 => (k2 s z1 z2).2 z3⟩, ?_⟩
  refine Cg.of (Nat.le_of_ble_eq_true rfl) ?_
  change Rg _ _ _ _ 0 [(0, .ref 168)] [] _ _ _
  refine Rg.cP0 (B := False) 1 F_Mo_liftAll_0 rfl (fun z => z) ?_
  refine Rg.step 2 F_Mo_liftAll_1 rfl (fun _ => rfl) ?_
  refine Rg.step 3 F_Mo_liftAll_2 rfl (fun _ => rfl) ?_
  refine Rg.step 4 F_Mo_liftAll_3 rfl (fun _ => rfl) ?_
  refine Rg.weak (h2 _ _ ?_) (by simp [lput1, lput2, Value.category, fi0, fi1, fi2, fi3] <;> first | rfl | exact ⟨rfl, rfl⟩) (by simp [lput1, lput2, Value.category, fi0, fi1, fi2, fi3] <;> first | rfl | exact ⟨rfl, rfl⟩)
  refine Rg.step 97 F_Mo_liftAll_96 rfl (fun _ => rfl) ?_
  refine Rg.step 98 F_Mo_liftAll_97 rfl (fun _ => rfl) ?_
  exact Rg.weak h3 (by simp [lput1, lput2, Value.category, fi0, fi1, fi2, fi3] <;> first | rfl | exact ⟨rfl, rfl⟩) (by simp [lput1, lput2, Value.category, fi0, fi1, fi2, fi3] <;> first | rfl | exact ⟨rfl, rfl⟩)
end R54
