/-! What is told of an action: the rows grow, and what the class keeps still fits. -/
theorem exN_eq {needs needs' : Int → Int} {a : Int} (h : needs' a = needs a) : inN needs' a = inN needs a := by
  funext k; unfold inN; rw [h]
theorem exC_eq {changes changes' : Int → Int} {a : Int} (h : changes' a = changes a) : inC changes' a = inC changes a := by
  funext k; unfold inC; rw [h]
theorem ex_c {I P Q : Int → Prop} (h : ∀ k, I k → (P k ↔ Q k)) : (∃ k, I k ∧ P k) ↔ ∃ k, I k ∧ Q k :=
  ⟨fun ⟨k, h1, h2⟩ => ⟨k, h1, (h k h1).mp h2⟩, fun ⟨k, h1, h2⟩ => ⟨k, h1, (h k h1).mpr h2⟩⟩
theorem ex_a {I I' P Q : Int → Prop} {K : Int} (hI : ∀ k, I' k ↔ I k ∨ k = K) (h : ∀ k, I k → (Q k ↔ P k)) : (∃ k, I' k ∧ Q k) ↔ (∃ k, I k ∧ P k) ∨ Q K :=
  ⟨fun ⟨k, h1, h2⟩ => ((hI k).mp h1).elim (fun z => Or.inl ⟨k, z, (h k z).mp h2⟩) (fun z => Or.inr (z ▸ h2)), fun z => z.elim (fun ⟨k, h1, h2⟩ => ⟨k, (hI k).mpr (Or.inl h1), (h k h1).mpr h2⟩) (fun z => ⟨K, (hI K).mpr (Or.inr rfl), z⟩)⟩
section R85
variable {needs needTime needOf needHow needN needD changes changeTime changeOf changeHow changeN changeD lastOf lastN lastD : Int → Int} {a : Int} {nd ch : Int} {me : Int → Prop} {nT nF : Int → Int → Prop} {cs : Int} {cT cO cH cN cD : Int → Int} {mT mF : Int → Int → Prop} {as : Int} {aT aO aH aN aD : Int → Int} {cG sA : Int → Int → Prop} {dO dN dD : Int → Int}
variable {needs' needTime' needOf' needHow' needN' needD' changes' changeTime' changeOf' changeHow' changeN' changeD' lastOf' lastN' lastD' : Int → Int}
variable {nd' ch' : Int} {me' : Int → Prop} {nT' nF' : Int → Int → Prop} {cs' : Int} {cT' cO' cH' cN' cD' : Int → Int} {mT' mF' : Int → Int → Prop} {as' : Int} {aT' aO' aH' aN' aD' : Int → Int} {cG' sA' : Int → Int → Prop} {dO' dN' dD' : Int → Int}
variable {t f how N D : Int}
/-- the rows of this action are the same -/
theorem rel_congr (h : RELA needs needTime needOf needHow needN needD changes changeTime changeOf changeHow changeN changeD lastOf lastN lastD a nd ch me nT nF cs cT cO cH cN cD mT mF as aT aO aH aN aD cG sA dO dN dD) (e1 : needs' a = needs a) (e2 : ∀ k, inN needs a k → needTime' k = needTime k ∧ needOf' k = needOf k ∧ needHow' k = needHow k ∧ needN' k = needN k ∧ needD' k = needD k) (e3 : changes' a = changes a) (e4 : ∀ k, inC changes a k → changeTime' k = changeTime k ∧ changeOf' k = changeOf k ∧ changeHow' k = changeHow k ∧ changeN' k = changeN k ∧ changeD' k = changeD k) (e5 : ∀ k, k = 2 * a ∨ k = 2 * a + 1 → lastOf' k = lastOf k ∧ lastN' k = lastN k ∧ lastD' k = lastD k) : RELA needs' needTime' needOf' needHow' needN' needD' changes' changeTime' changeOf' changeHow' changeN' changeD' lastOf' lastN' lastD' a nd ch me nT nF cs cT cO cH cN cD mT mF as aT aO aH aN aD cG sA dO dN dD := by
  obtain ⟨⟨q1, q2⟩, hT, hF, ⟨hcs, NL, hN, hNs⟩, hmT, hmF, ⟨has, AL, hA, hAs, hAm⟩, hG, hS, hM, ⟨hd0, hd1⟩, hu, hlow⟩ := h
  obtain ⟨l1, l2, l3⟩ := e5 (2 * a) (Or.inl rfl)
  obtain ⟨r1, r2, r3⟩ := e5 (2 * a + 1) (Or.inr rfl)
  have l1' : lastOf' (2 * a + 0) = lastOf (2 * a + 0) := by rw [show 2 * a + 0 = 2 * a by omega]; exact l1
  have l2' : lastN' (2 * a + 0) = lastN (2 * a + 0) := by rw [show 2 * a + 0 = 2 * a by omega]; exact l2
  have l3' : lastD' (2 * a + 0) = lastD (2 * a + 0) := by rw [show 2 * a + 0 = 2 * a by omega]; exact l3
  unfold RELA
  rw [exN_eq e1, exC_eq e3, e1, e3, l1, l1', l2', l3', r1, r2, r3]
  refine ⟨⟨q1, q2⟩, fun s i => (hT s i).trans (ex_c fun k hk => ?_), fun s i => (hF s i).trans (ex_c fun k hk => ?_), ⟨hcs, NL, fun i h1 h2 => ?_, fun k h1 h2 => hNs k h1 ?_⟩, fun s i => (hmT s i).trans (ex_c fun k hk => ?_), fun s i => (hmF s i).trans (ex_c fun k hk => ?_), ⟨has, AL, fun i h1 h2 => ?_, fun k h1 h2 => hAs k h1 ?_, hAm⟩, fun s i => (hG s i).trans (ex_c fun k hk => ?_), fun s i => (hS s i).trans (or_congr (ex_c fun k hk => ?_) (ex_c fun k hk => ?_)), hM, ⟨hd0, hd1⟩, fun k k1 h1 h2 => ?_, fun k h1 h2 => ?_⟩
  · obtain ⟨z1, z2, z3, z4, z5⟩ := e2 k hk; rw [z1, z2, z3]
  · obtain ⟨z1, z2, z3, z4, z5⟩ := e2 k hk; rw [z1, z2, z3]
  · obtain ⟨⟨y1, y2⟩, y3⟩ := hN i h1 h2
    obtain ⟨z1, z2, z3, z4, z5⟩ := e2 _ y1; rw [z1, z2, z3, z4, z5]; exact ⟨⟨y1, y2⟩, y3⟩
  · obtain ⟨z1, z2, z3, z4, z5⟩ := e2 k h1; rw [← z3]; exact h2
  · obtain ⟨z1, z2, z3, z4, z5⟩ := e4 k hk; rw [z1, z2, z3]
  · obtain ⟨z1, z2, z3, z4, z5⟩ := e4 k hk; rw [z1, z2, z3]
  · obtain ⟨⟨y1, y2⟩, y3⟩ := hA i h1 h2
    obtain ⟨z1, z2, z3, z4, z5⟩ := e4 _ y1; rw [z1, z2, z3, z4, z5]; exact ⟨⟨y1, y2⟩, y3⟩
  · obtain ⟨z1, z2, z3, z4, z5⟩ := e4 k h1; rw [← z3]; exact h2
  · obtain ⟨z1, z2, z3, z4, z5⟩ := e4 k hk; rw [z1, z2, z3]
  · obtain ⟨z1, z2, z3, z4, z5⟩ := e2 k hk; rw [z1, z2, z3]
  · obtain ⟨z1, z2, z3, z4, z5⟩ := e4 k hk; rw [z1, z2, z3]
  · obtain ⟨z1, z2, z3, z4, z5⟩ := e4 k h1
    obtain ⟨y1, y2, y3, y4, y5⟩ := e4 k1 h2
    rw [z1, z2, z3, y1, y2, y3]
    exact hu k k1 h1 h2
  · obtain ⟨z1, z2, z3, z4, z5⟩ := e4 k h1
    rw [z4, z5]
    exact hlow k h1 (by rw [← z3]; exact h2)
/-- a need more -/
theorem rel_need (h : RELA needs needTime needOf needHow needN needD changes changeTime changeOf changeHow changeN changeD lastOf lastN lastD a nd ch me nT nF cs cT cO cH cN cD mT mF as aT aO aH aN aD cG sA dO dN dD) (hn : 0 ≤ needs a) (h1 : ∀ s i, nT' s i ↔ nT s i ∨ (t = s ∧ how = 11 ∧ f = i)) (h2 : ∀ s i, nF' s i ↔ nF s i ∨ (t = s ∧ how = 10 ∧ f = i)) (h3 : (9 < how ∧ cs' = cs ∧ cT' = cT ∧ cO' = cO ∧ cH' = cH ∧ cN' = cN ∧ cD' = cD) ∨ (how ≤ 9 ∧ cs' = cs + 1 ∧ cT' = up1 cT cs t ∧ cO' = up1 cO cs f ∧ cH' = up1 cH cs how ∧ cN' = up1 cN cs N ∧ cD' = up1 cD cs D)) (h4 : ∀ s i, sA' s i ↔ sA s i ∨ (t = s ∧ ((9 < how ∧ f = i) ∨ (how ≤ 9 ∧ f + 16 = i)))) : RELA (up1 needs a (needs a + 1)) (up1 needTime (8 * a + needs a) t) (up1 needOf (8 * a + needs a) f) (up1 needHow (8 * a + needs a) how) (up1 needN (8 * a + needs a) N) (up1 needD (8 * a + needs a) D) changes changeTime changeOf changeHow changeN changeD lastOf lastN lastD a (nd + 1) ch me nT' nF' cs' cT' cO' cH' cN' cD' mT mF as aT aO aH aN aD cG sA' dO dN dD := by
  obtain ⟨⟨q1, q2⟩, hT, hF, ⟨hcs, NL, hN, hNs⟩, hmT, hmF, hA, hG, hS, hM, hd, hu, hlow⟩ := h
  have hI : ∀ k, inN (up1 needs a (needs a + 1)) a k ↔ inN needs a k ∨ k = 8 * a + needs a := fun k => by
    unfold inN; rw [up1_eq]; omega
  have hne : ∀ k, inN needs a k → ¬ k = 8 * a + needs a := fun k hk => by have := hk.2; omega
  have hE : ∀ (g : Int → Int) (v : Int) k, inN needs a k → up1 g (8 * a + needs a) v k = g k := fun g v k hk => up1_ne _ _ (hne k hk)
  unfold RELA
  refine ⟨⟨by rw [up1_eq, q1], q2⟩, fun s i => ?_, fun s i => ?_, ?_, hmT, hmF, hA, hG, fun s i => ?_, hM, hd, hu, hlow⟩
  · rw [h1, hT, ex_a hI (P := fun k => needTime k = s ∧ needHow k = 11 ∧ needOf k = i) (fun k hk => by rw [hE _ _ k hk, hE _ _ k hk, hE _ _ k hk]), up1_eq, up1_eq, up1_eq]
  · rw [h2, hF, ex_a hI (P := fun k => needTime k = s ∧ needHow k = 10 ∧ needOf k = i) (fun k hk => by rw [hE _ _ k hk, hE _ _ k hk, hE _ _ k hk]), up1_eq, up1_eq, up1_eq]
  · rw [up1_eq]
    rcases h3 with ⟨w, c1, c2, c3, c4, c5, c6⟩ | ⟨w, c1, c2, c3, c4, c5, c6⟩
    · rw [c1, c2, c3, c4, c5, c6]
      refine ⟨by omega, NL, fun i i1 i2 => ?_, fun k k1 k2 => ?_⟩
      · obtain ⟨⟨y1, y2⟩, y3⟩ := hN i i1 i2
        rw [hE _ _ _ y1, hE _ _ _ y1, hE _ _ _ y1, hE _ _ _ y1, hE _ _ _ y1]
        exact ⟨⟨(hI _).mpr (Or.inl y1), y2⟩, y3⟩
      · rcases (hI k).mp k1 with z | z
        · exact hNs k z (by rw [hE _ _ _ z] at k2; exact k2)
        · rw [z, up1_eq] at k2; omega
    · rw [c1, c2, c3, c4, c5, c6]
      refine ⟨by omega, up1 NL cs (8 * a + needs a), fun i i1 i2 => ?_, fun k k1 k2 => ?_⟩
      · by_cases hi : i = cs
        · rw [hi]
          simp only [up1_eq]
          exact ⟨⟨(hI _).mpr (Or.inr rfl), w⟩, trivial, trivial, trivial, trivial, trivial⟩
        · simp only [up1_ne _ _ hi]
          obtain ⟨⟨y1, y2⟩, y3⟩ := hN i i1 (by omega)
          rw [hE _ _ _ y1, hE _ _ _ y1, hE _ _ _ y1, hE _ _ _ y1, hE _ _ _ y1]
          exact ⟨⟨(hI _).mpr (Or.inl y1), y2⟩, y3⟩
      · rcases (hI k).mp k1 with z | z
        · obtain ⟨i, i1, i2, i3⟩ := hNs k z (by rw [hE _ _ _ z] at k2; exact k2)
          exact ⟨i, i1, by omega, by rw [up1_ne _ _ (by omega)]; exact i3⟩
        · exact ⟨cs, hcs.1, by omega, by rw [up1_eq, z]⟩
  · rw [h4, hS, ex_a hI (P := fun k => needTime k = s ∧ ((9 < needHow k ∧ needOf k = i) ∨ (needHow k ≤ 9 ∧ needOf k + 16 = i))) (fun k hk => by rw [hE _ _ k hk, hE _ _ k hk, hE _ _ k hk]), up1_eq, up1_eq, up1_eq, or_right_comm]
/-- a change more -/
theorem rel_chg (h : RELA needs needTime needOf needHow needN needD changes changeTime changeOf changeHow changeN changeD lastOf lastN lastD a nd ch me nT nF cs cT cO cH cN cD mT mF as aT aO aH aN aD cG sA dO dN dD) (hn : 0 ≤ changes a) (hnew : ∀ k, inC changes a k → ¬ (changeTime k = t ∧ (9 < changeHow k ↔ 9 < how) ∧ changeOf k = f)) (hg : Int.gcd N D = 1) (h1 : ∀ s i, mT' s i ↔ mT s i ∨ (t = s ∧ how = 11 ∧ f = i)) (h2 : ∀ s i, mF' s i ↔ mF s i ∨ (t = s ∧ how = 10 ∧ f = i)) (h3 : (9 < how ∧ as' = as ∧ aT' = aT ∧ aO' = aO ∧ aH' = aH ∧ aN' = aN ∧ aD' = aD) ∨ (how ≤ 9 ∧ as' = as + 1 ∧ aT' = up1 aT as t ∧ aO' = up1 aO as f ∧ aH' = up1 aH as how ∧ aN' = up1 aN as N ∧ aD' = up1 aD as D)) (h5 : ∀ s i, cG' s i ↔ cG s i ∨ (t = s ∧ ((9 < how ∧ f = i) ∨ (how ≤ 9 ∧ f + 16 = i)))) (h4 : ∀ s i, sA' s i ↔ sA s i ∨ (t = s ∧ (how = 0 ∨ how = 3) ∧ f + 16 = i)) : RELA needs needTime needOf needHow needN needD (up1 changes a (changes a + 1)) (up1 changeTime (6 * a + changes a) t) (up1 changeOf (6 * a + changes a) f) (up1 changeHow (6 * a + changes a) how) (up1 changeN (6 * a + changes a) N) (up1 changeD (6 * a + changes a) D) lastOf lastN lastD a nd (ch + 1) me nT nF cs cT cO cH cN cD mT' mF' as' aT' aO' aH' aN' aD' cG' sA' dO dN dD := by
  obtain ⟨⟨q1, q2⟩, hT, hF, hN, hmT, hmF, ⟨has, AL, hA, hAs, hAm⟩, hG, hS, hM, hd, hu, hlow⟩ := h
  have hI : ∀ k, inC (up1 changes a (changes a + 1)) a k ↔ inC changes a k ∨ k = 6 * a + changes a := fun k => by
    unfold inC; rw [up1_eq]; omega
  have hne : ∀ k, inC changes a k → ¬ k = 6 * a + changes a := fun k hk => by have := hk.2; omega
  have hE : ∀ (g : Int → Int) (v : Int) k, inC changes a k → up1 g (6 * a + changes a) v k = g k := fun g v k hk => up1_ne _ _ (hne k hk)
  unfold RELA
  refine ⟨⟨q1, by rw [up1_eq, q2]⟩, hT, hF, hN, fun s i => ?_, fun s i => ?_, ?_, fun s i => ?_, fun s i => ?_, hM, hd, fun k k1 z1 z2 => ?_, fun k z1 z2 => ?_⟩
  · rw [h1, hmT, ex_a hI (P := fun k => changeTime k = s ∧ changeHow k = 11 ∧ changeOf k = i) (fun k hk => by rw [hE _ _ k hk, hE _ _ k hk, hE _ _ k hk]), up1_eq, up1_eq, up1_eq]
  · rw [h2, hmF, ex_a hI (P := fun k => changeTime k = s ∧ changeHow k = 10 ∧ changeOf k = i) (fun k hk => by rw [hE _ _ k hk, hE _ _ k hk, hE _ _ k hk]), up1_eq, up1_eq, up1_eq]
  · rw [up1_eq]
    rcases h3 with ⟨w, c1, c2, c3, c4, c5, c6⟩ | ⟨w, c1, c2, c3, c4, c5, c6⟩
    · rw [c1, c2, c3, c4, c5, c6]
      refine ⟨by omega, AL, fun i i1 i2 => ?_, fun k k1 k2 => ?_, hAm⟩
      · obtain ⟨⟨y1, y2⟩, y3⟩ := hA i i1 i2
        rw [hE _ _ _ y1, hE _ _ _ y1, hE _ _ _ y1, hE _ _ _ y1, hE _ _ _ y1]
        exact ⟨⟨(hI _).mpr (Or.inl y1), y2⟩, y3⟩
      · rcases (hI k).mp k1 with z | z
        · exact hAs k z (by rw [hE _ _ _ z] at k2; exact k2)
        · rw [z, up1_eq] at k2; omega
    · rw [c1, c2, c3, c4, c5, c6]
      refine ⟨by omega, up1 AL as (6 * a + changes a), fun i i1 i2 => ?_, fun k k1 k2 => ?_, fun i j i1 i2 i3 => ?_⟩
      · by_cases hi : i = as
        · rw [hi]
          simp only [up1_eq]
          exact ⟨⟨(hI _).mpr (Or.inr rfl), w⟩, trivial, trivial, trivial, trivial, trivial⟩
        · simp only [up1_ne _ _ hi]
          obtain ⟨⟨y1, y2⟩, y3⟩ := hA i i1 (by omega)
          rw [hE _ _ _ y1, hE _ _ _ y1, hE _ _ _ y1, hE _ _ _ y1, hE _ _ _ y1]
          exact ⟨⟨(hI _).mpr (Or.inl y1), y2⟩, y3⟩
      · rcases (hI k).mp k1 with z | z
        · obtain ⟨i, i1, i2, i3⟩ := hAs k z (by rw [hE _ _ _ z] at k2; exact k2)
          exact ⟨i, i1, by omega, by rw [up1_ne _ _ (by omega)]; exact i3⟩
        · exact ⟨as, has.1, by omega, by rw [up1_eq, z]⟩
      · rw [up1_ne _ _ (show ¬ i = as by omega)]
        by_cases hj : j = as
        · rw [hj, up1_eq]
          have := (hA i i1 (by omega)).1.1.2
          omega
        · rw [up1_ne _ _ hj]
          exact hAm i j i1 i2 (by omega)
  · rw [h5, hG, ex_a hI (P := fun k => changeTime k = s ∧ ((9 < changeHow k ∧ changeOf k = i) ∨ (changeHow k ≤ 9 ∧ changeOf k + 16 = i))) (fun k hk => by rw [hE _ _ k hk, hE _ _ k hk, hE _ _ k hk]), up1_eq, up1_eq, up1_eq]
  · rw [h4, hS, ex_a hI (P := fun k => changeTime k = s ∧ (changeHow k = 0 ∨ changeHow k = 3) ∧ changeOf k + 16 = i) (fun k hk => by rw [hE _ _ k hk, hE _ _ k hk, hE _ _ k hk]), up1_eq, up1_eq, up1_eq, or_assoc]
  · rcases (hI k).mp z1 with y1 | y1 <;> rcases (hI k1).mp z2 with y2 | y2
    · rw [hE _ _ k y1, hE _ _ k y1, hE _ _ k y1, hE _ _ k1 y2, hE _ _ k1 y2, hE _ _ k1 y2]
      exact hu k k1 y1 y2
    · rw [hE _ _ k y1, hE _ _ k y1, hE _ _ k y1, y2, up1_eq, up1_eq, up1_eq]
      exact fun x1 x2 x3 => absurd ⟨x1, x2, x3⟩ (hnew k y1)
    · rw [hE _ _ k1 y2, hE _ _ k1 y2, hE _ _ k1 y2, y1, up1_eq, up1_eq, up1_eq]
      exact fun x1 x2 x3 => absurd ⟨x1.symm, x2.symm, x3.symm⟩ (hnew k1 y2)
    · exact fun _ _ _ => by rw [y1, y2]
  · rcases (hI k).mp z1 with y1 | y1
    · rw [hE _ _ k y1, hE _ _ k y1]
      exact hlow k y1 (by rw [hE _ _ k y1] at z2; exact z2)
    · rw [y1, up1_eq, up1_eq]
      exact hg
/-- a bound -/
theorem rel_last (h : RELA needs needTime needOf needHow needN needD changes changeTime changeOf changeHow changeN changeD lastOf lastN lastD a nd ch me nT nF cs cT cO cH cN cD mT mF as aT aO aH aN aD cG sA dO dN dD) (ht : 0 ≤ t ∧ t ≤ 1) (hg : Int.gcd N D = 1) : RELA needs needTime needOf needHow needN needD changes changeTime changeOf changeHow changeN changeD (up1 lastOf (2 * a + t) f) (up1 lastN (2 * a + t) N) (up1 lastD (2 * a + t) D) a nd ch (fun i => ∃ j, 0 ≤ j ∧ j < 2 ∧ 0 ≤ (up1 dO t f) j ∧ i = 16 + (up1 dO t f) j) nT nF cs cT cO cH cN cD mT mF as aT aO aH aN aD cG sA (up1 dO t f) (up1 dN t N) (up1 dD t D) := by
  obtain ⟨q, hT, hF, hN, hmT, hmF, hA, hG, hS, hM, ⟨hd0, hd1⟩, hu, hlow⟩ := h
  have k0 : ∀ (g : Int → Int) (v : Int), t = 0 → up1 g (2 * a + t) v (2 * a + 0) = v ∧ up1 g (2 * a + t) v (2 * a) = v ∧ up1 g (2 * a + t) v (2 * a + 1) = g (2 * a + 1) := fun g v z => by
    subst z
    exact ⟨up1_eq _ _ _, by unfold up1; rw [if_pos (by omega)], up1_ne _ _ (by omega)⟩
  have k1 : ∀ (g : Int → Int) (v : Int), t = 1 → up1 g (2 * a + t) v (2 * a + 0) = g (2 * a + 0) ∧ up1 g (2 * a + t) v (2 * a) = g (2 * a) ∧ up1 g (2 * a + t) v (2 * a + 1) = v := fun g v z => by
    subst z
    exact ⟨up1_ne _ _ (by omega), up1_ne _ _ (by omega), up1_eq _ _ _⟩
  refine ⟨q, hT, hF, hN, hmT, hmF, hA, hG, hS, fun i => ?_, ?_, hu, hlow⟩
  · have key : (∃ j, 0 ≤ j ∧ j < 2 ∧ 0 ≤ (up1 dO t f) j ∧ i = 16 + (up1 dO t f) j) ↔ (0 ≤ up1 dO t f 0 ∧ i = 16 + up1 dO t f 0) ∨ (0 ≤ up1 dO t f 1 ∧ i = 16 + up1 dO t f 1) := by
      constructor
      · rintro ⟨j, j1, j2, j3⟩
        rcases (show j = 0 ∨ j = 1 by omega) with e | e <;> rw [e] at j3
        · exact Or.inl j3
        · exact Or.inr j3
      · rintro (z | z)
        · exact ⟨0, by omega, by omega, z⟩
        · exact ⟨1, by omega, by omega, z⟩
    have e0 := hd0.1
    have e1 := hd1.1
    rw [show 2 * a + 0 = 2 * a by omega] at e0
    refine key.trans ?_
    rcases (show t = 0 ∨ t = 1 by omega) with e | e
    · rw [(k0 lastOf f e).2.1, (k0 lastOf f e).2.2, e, up1_eq, up1_ne _ _ (by decide : ¬ (1 : Int) = 0), e1]
      constructor <;> (rintro (z | z) <;> first | exact Or.inl ⟨z.1, by omega⟩ | exact Or.inr ⟨z.1, by omega⟩)
    · rw [(k1 lastOf f e).2.1, (k1 lastOf f e).2.2, e, up1_eq, up1_ne _ _ (by decide : ¬ (0 : Int) = 1), e0]
      constructor <;> (rintro (z | z) <;> first | exact Or.inl ⟨z.1, by omega⟩ | exact Or.inr ⟨z.1, by omega⟩)
  · rcases (show t = 0 ∨ t = 1 by omega) with e | e
    · rw [(k0 lastOf f e).1, (k0 lastN N e).1, (k0 lastD D e).1, (k0 lastOf f e).2.2, (k0 lastN N e).2.2, (k0 lastD D e).2.2, e, up1_eq, up1_eq, up1_eq, up1_ne _ _ (by decide : ¬ (1 : Int) = 0), up1_ne _ _ (by decide : ¬ (1 : Int) = 0), up1_ne _ _ (by decide : ¬ (1 : Int) = 0)]
      exact ⟨⟨rfl, fun _ => ⟨rfl, rfl, hg⟩⟩, hd1⟩
    · rw [(k1 lastOf f e).1, (k1 lastN N e).1, (k1 lastD D e).1, (k1 lastOf f e).2.2, (k1 lastN N e).2.2, (k1 lastD D e).2.2, e, up1_eq, up1_eq, up1_eq, up1_ne _ _ (by decide : ¬ (0 : Int) = 1), up1_ne _ _ (by decide : ¬ (0 : Int) = 1), up1_ne _ _ (by decide : ¬ (0 : Int) = 1)]
      exact ⟨hd0, ⟨rfl, fun _ => ⟨rfl, rfl, hg⟩⟩⟩
/-- a new action -/
theorem rel_new (h1 : needs a = 0) (h2 : changes a = 0) (h3 : lastOf (2 * a) = -2) (h4 : lastOf (2 * a + 1) = -2) : RELA needs needTime needOf needHow needN needD changes changeTime changeOf changeHow changeN changeD lastOf lastN lastD a 0 0 (fun _ => False) (fun _ _ => False) (fun _ _ => False) 0 cT cO cH cN cD (fun _ _ => False) (fun _ _ => False) 0 aT aO aH aN aD (fun _ _ => False) (fun _ _ => False) (fun _ => -2) dN dD := by
  have n1 : ∀ k, ¬ inN needs a k := fun k z => by unfold inN at z; omega
  have n2 : ∀ k, ¬ inC changes a k := fun k z => by unfold inC at z; omega
  refine ⟨⟨h1.symm, h2.symm⟩, fun t i => ⟨False.elim, fun ⟨k, z, _⟩ => n1 k z⟩, fun t i => ⟨False.elim, fun ⟨k, z, _⟩ => n1 k z⟩, ⟨by omega, fun _ => 0, fun i z1 z2 => by omega, fun k z => absurd z (n1 k)⟩, fun t i => ⟨False.elim, fun ⟨k, z, _⟩ => n2 k z⟩, fun t i => ⟨False.elim, fun ⟨k, z, _⟩ => n2 k z⟩, ⟨by omega, fun _ => 0, fun i z1 z2 => by omega, fun k z => absurd z (n2 k), fun i j z1 z2 z3 => by omega⟩, fun t i => ⟨False.elim, fun ⟨k, z, _⟩ => n2 k z⟩, fun t i => ⟨False.elim, fun z => z.elim (fun ⟨k, z, _⟩ => n1 k z) (fun ⟨k, z, _⟩ => n2 k z)⟩, fun i => ⟨False.elim, fun z => by omega⟩, ⟨⟨by rw [show 2 * a + 0 = 2 * a by omega, h3], fun z => absurd (by rw [show 2 * a + 0 = 2 * a by omega, h3]) z⟩, ⟨h4.symm, fun z => absurd h4 z⟩⟩, fun k k1 z => absurd z (n2 k), fun k z => absurd z (n2 k)⟩
theorem chg_bd {changes changeTime changeHow changeOf : Int → Int} {a t of : Int} {P : Prop} (hc : 0 ≤ changes a) (ha : 0 ≤ a) : (chg changes changeTime changeHow changeOf a t P of = -1 ∧ ∀ k, inC changes a k → ¬ (changeTime k = t ∧ (9 < changeHow k ↔ P) ∧ changeOf k = of)) ∨ (0 ≤ chg changes changeTime changeHow changeOf a t P of ∧ ∃ k, inC changes a k ∧ changeTime k = t ∧ (9 < changeHow k ↔ P) ∧ changeOf k = of) := by
  unfold chg
  rcases fnd_bd (A := fun k => changeTime k = t ∧ (9 < changeHow k ↔ P) ∧ changeOf k = of) (changes a).toNat (6 * a) with ⟨h1, h2⟩ | ⟨h1, h2, h3, h4⟩
  · exact Or.inl ⟨h1, fun k hk => h2 k hk.1 (by have := hk.2; omega)⟩
  · exact Or.inr ⟨by omega, _, ⟨h1, by omega⟩, h3⟩
theorem cG_fact (h : RELA needs needTime needOf needHow needN needD changes changeTime changeOf changeHow changeN changeD lastOf lastN lastD a nd ch me nT nF cs cT cO cH cN cD mT mF as aT aO aH aN aD cG sA dO dN dD) (hc : 0 ≤ changes a) (ha : 0 ≤ a) (wcO : ∀ k, 0 ≤ changeOf k) (hf : f < 16) : (cG t f ∧ 0 ≤ chg changes changeTime changeHow changeOf a t True f) ∨ (¬ cG t f ∧ chg changes changeTime changeHow changeOf a t True f = -1 ∧ ∀ k, inC changes a k → ¬ (changeTime k = t ∧ (9 < changeHow k ↔ True) ∧ changeOf k = f)) := by
  obtain ⟨-, -, -, -, -, -, -, hG, -⟩ := h
  rcases chg_bd (changeTime := changeTime) (changeHow := changeHow) (changeOf := changeOf) (t := t) (of := f) (P := True) hc ha with ⟨z1, z2⟩ | ⟨z1, k, z2, z3, z4, z5⟩
  · refine Or.inr ⟨fun z => ?_, z1, z2⟩
    obtain ⟨k, k1, k2, k3⟩ := (hG t f).mp z
    have := wcO k
    rcases k3 with k3 | k3
    · exact z2 k k1 ⟨k2, ⟨fun _ => trivial, fun _ => k3.1⟩, k3.2⟩
    · omega
  · exact Or.inl ⟨(hG t f).mpr ⟨k, z2, z3, Or.inl ⟨z4.mpr trivial, z5⟩⟩, z1⟩
theorem cG_num (h : RELA needs needTime needOf needHow needN needD changes changeTime changeOf changeHow changeN changeD lastOf lastN lastD a nd ch me nT nF cs cT cO cH cN cD mT mF as aT aO aH aN aD cG sA dO dN dD) (hc : 0 ≤ changes a) (ha : 0 ≤ a) (wcO : ∀ k, changeOf k ≤ 15) (hf : 0 ≤ f) : (cG t (16 + f) ∧ 0 ≤ chg changes changeTime changeHow changeOf a t False f) ∨ (¬ cG t (16 + f) ∧ chg changes changeTime changeHow changeOf a t False f = -1 ∧ ∀ k, inC changes a k → ¬ (changeTime k = t ∧ (9 < changeHow k ↔ False) ∧ changeOf k = f)) := by
  obtain ⟨-, -, -, -, -, -, -, hG, -⟩ := h
  rcases chg_bd (changeTime := changeTime) (changeHow := changeHow) (changeOf := changeOf) (t := t) (of := f) (P := False) hc ha with ⟨z1, z2⟩ | ⟨z1, k, z2, z3, z4, z5⟩
  · refine Or.inr ⟨fun z => ?_, z1, z2⟩
    obtain ⟨k, k1, k2, k3⟩ := (hG t (16 + f)).mp z
    have := wcO k
    rcases k3 with k3 | k3
    · omega
    · exact z2 k k1 ⟨k2, ⟨fun y => by omega, False.elim⟩, by omega⟩
  · exact Or.inl ⟨(hG t (16 + f)).mpr ⟨k, z2, z3, Or.inr ⟨Int.not_lt.mp (fun y => z4.mp y), by omega⟩⟩, z1⟩
end R85
section W85
variable {epsilonN epsilonD actions : Int} {wishes wants wantN wantD needs needTime needOf needHow needN needD changes changeTime changeOf changeHow changeN changeD lastOf lastN lastD firstN firstD : Int → Int}
variable {a t f how N D : Int}
theorem up_all {g : Int → Int} {P : Int → Prop} {k v : Int} (h : ∀ j, P (g j)) (hv : P v) : ∀ j, P (up1 g k v j) := fun j => by
  by_cases e : j = k
  · rw [e, up1_eq]; exact hv
  · rw [up1_ne _ _ e]; exact h j
theorem up_all2 {g g2 : Int → Int} {P : Int → Int → Prop} {k v w : Int} (h : ∀ j, P (g j) (g2 j)) (hv : P v w) : ∀ j, P (up1 g k v j) (up1 g2 k w j) := fun j => by
  by_cases e : j = k
  · rw [e, up1_eq, up1_eq]; exact hv
  · rw [up1_ne _ _ e, up1_ne _ _ e]; exact h j
theorem WT_need (h : (WT epsilonN epsilonD wishes wants wantN wantD actions needs needTime needOf needHow needN needD changes changeTime changeOf changeHow changeN changeD lastOf lastN lastD firstN firstD)) (hND : (-100000 ≤ N ∧ N ≤ 100000) ∧ 0 < D ∧ D ≤ 1000) (ht : 0 ≤ t ∧ t ≤ 2) (hf : 0 ≤ f ∧ f ≤ 15 ∧ (how ≤ 9 → f ≤ 7)) (hh : 0 ≤ how ∧ how ≤ 11 ∧ (how ≤ 4 ∨ 10 ≤ how)) (hn : ¬ needs a = 8) : (WT epsilonN epsilonD wishes wants wantN wantD actions (up1 needs a (needs a + 1)) (up1 needTime (8 * a + needs a) t) (up1 needOf (8 * a + needs a) f) (up1 needHow (8 * a + needs a) how) (up1 needN (8 * a + needs a) N) (up1 needD (8 * a + needs a) D) changes changeTime changeOf changeHow changeN changeD lastOf lastN lastD firstN firstD) := by
  obtain ⟨w1, w2, w3, w4, w5, w6, w7, w8, w9, w10, w11, w12, w13, w14, w15, w16, w17, w18, w19, w20, w21⟩ := h
  refine ⟨w1, w2, w3, w4, w5, up_all w6 (P := fun x => 0 ≤ x ∧ x ≤ 8) (by have := w6 a; omega), up_all w7 (P := fun x => 0 ≤ x ∧ x ≤ 2) ht, up_all2 w8 (P := fun x y => 0 ≤ x ∧ x ≤ 15 ∧ (y ≤ 9 → x ≤ 7)) hf, up_all w9 (P := fun x => 0 ≤ x ∧ x ≤ 11 ∧ (x ≤ 4 ∨ 10 ≤ x)) hh, up_all2 w10 (P := fun x y => -100000 ≤ x ∧ x ≤ 100000 ∧ 0 ≤ y ∧ y ≤ 1000) (by omega), fun b k h1 h2 h3 h4 => ?_, w12, w13, w14, w15, w16, w17, w18, w19, w20, w21⟩
  by_cases e : k = 8 * a + needs a
  · rw [e, up1_eq]; omega
  · rw [up1_ne _ _ e]
    refine w11 b k h1 h2 h3 ?_
    by_cases e2 : b = a
    · rw [e2] at h4 ⊢; rw [up1_eq] at h4; omega
    · rw [up1_ne _ _ e2] at h4; exact h4
theorem WT_chg (h : (WT epsilonN epsilonD wishes wants wantN wantD actions needs needTime needOf needHow needN needD changes changeTime changeOf changeHow changeN changeD lastOf lastN lastD firstN firstD)) (hND : (-100000 ≤ N ∧ N ≤ 100000) ∧ 0 < D ∧ D ≤ 1000) (ht : 0 ≤ t ∧ t ≤ 2) (hf : 0 ≤ f ∧ f ≤ 15 ∧ (how ≤ 9 → f ≤ 7)) (hh : 0 ≤ how ∧ how ≤ 11 ∧ (how ≤ 3 ∨ 10 ≤ how)) (hn : ¬ changes a = 6) : (WT epsilonN epsilonD wishes wants wantN wantD actions needs needTime needOf needHow needN needD (up1 changes a (changes a + 1)) (up1 changeTime (6 * a + changes a) t) (up1 changeOf (6 * a + changes a) f) (up1 changeHow (6 * a + changes a) how) (up1 changeN (6 * a + changes a) N) (up1 changeD (6 * a + changes a) D) lastOf lastN lastD firstN firstD) := by
  obtain ⟨w1, w2, w3, w4, w5, w6, w7, w8, w9, w10, w11, w12, w13, w14, w15, w16, w17, w18, w19, w20, w21⟩ := h
  refine ⟨w1, w2, w3, w4, w5, w6, w7, w8, w9, w10, w11, up_all w12 (P := fun x => 0 ≤ x ∧ x ≤ 6) (by have := w12 a; omega), up_all w13 (P := fun x => 0 ≤ x ∧ x ≤ 2) ht, up_all2 w14 (P := fun x y => 0 ≤ x ∧ x ≤ 15 ∧ (y ≤ 9 → x ≤ 7)) hf, up_all w15 (P := fun x => 0 ≤ x ∧ x ≤ 11 ∧ (x ≤ 3 ∨ 10 ≤ x)) hh, up_all2 w16 (P := fun x y => -100000 ≤ x ∧ x ≤ 100000 ∧ 0 ≤ y ∧ y ≤ 1000) (by omega), fun b k h1 h2 h3 h4 => ?_, w18, w19, w20, w21⟩
  by_cases e : k = 6 * a + changes a
  · rw [e, up1_eq]; omega
  · rw [up1_ne _ _ e]
    refine w17 b k h1 h2 h3 ?_
    by_cases e2 : b = a
    · rw [e2] at h4 ⊢; rw [up1_eq] at h4; omega
    · rw [up1_ne _ _ e2] at h4; exact h4
theorem WT_last (h : (WT epsilonN epsilonD wishes wants wantN wantD actions needs needTime needOf needHow needN needD changes changeTime changeOf changeHow changeN changeD lastOf lastN lastD firstN firstD)) (hND : (-100000 ≤ N ∧ N ≤ 100000) ∧ 0 < D ∧ D ≤ 1000) (hf : -2 ≤ f ∧ f ≤ 7) : (WT epsilonN epsilonD wishes wants wantN wantD actions needs needTime needOf needHow needN needD changes changeTime changeOf changeHow changeN changeD (up1 lastOf (2 * a + t) f) (up1 lastN (2 * a + t) N) (up1 lastD (2 * a + t) D) firstN firstD) := by
  obtain ⟨w1, w2, w3, w4, w5, w6, w7, w8, w9, w10, w11, w12, w13, w14, w15, w16, w17, w18, w19, w20, w21⟩ := h
  refine ⟨w1, w2, w3, w4, w5, w6, w7, w8, w9, w10, w11, w12, w13, w14, w15, w16, w17, up_all w18 (P := fun x => -2 ≤ x ∧ x ≤ 7) hf, up_all2 w19 (P := fun x y => -100000 ≤ x ∧ x ≤ 100000 ∧ 0 ≤ y ∧ y ≤ 1000) (by omega), fun k h1 h2 h3 => ?_, w21⟩
  by_cases e : k = 2 * a + t
  · rw [e, up1_eq]; omega
  · rw [up1_ne _ _ e]; rw [up1_ne _ _ e] at h3; exact w20 k h1 h2 h3
theorem WT_action (h : (WT epsilonN epsilonD wishes wants wantN wantD actions needs needTime needOf needHow needN needD changes changeTime changeOf changeHow changeN changeD lastOf lastN lastD firstN firstD)) (hn : ¬ actions = 12) : (WT epsilonN epsilonD wishes wants wantN wantD (actions + 1) (up1 needs actions 0) needTime needOf needHow needN needD (up1 changes actions 0) changeTime changeOf changeHow changeN changeD (up1 (up1 lastOf (2 * actions) (-2)) (2 * actions + 1) (-2)) lastN lastD firstN firstD) := by
  obtain ⟨w1, w2, w3, w4, w5, w6, w7, w8, w9, w10, w11, w12, w13, w14, w15, w16, w17, w18, w19, w20, w21⟩ := h
  refine ⟨w1, w2, w3, w4, by omega, up_all w6 (P := fun x => 0 ≤ x ∧ x ≤ 8) (by omega), w7, w8, w9, w10, fun b k h1 h2 h3 h4 => ?_, up_all w12 (P := fun x => 0 ≤ x ∧ x ≤ 6) (by omega), w13, w14, w15, w16, fun b k h1 h2 h3 h4 => ?_, up_all (up_all w18 (P := fun x => -2 ≤ x ∧ x ≤ 7) (by omega)) (P := fun x => -2 ≤ x ∧ x ≤ 7) (by omega), w19, fun k h1 h2 h3 => ?_, w21⟩
  · by_cases e : b = actions
    · rw [e, up1_eq] at h4; omega
    · rw [up1_ne _ _ e] at h4; exact w11 b k h1 (by omega) h3 h4
  · by_cases e : b = actions
    · rw [e, up1_eq] at h4; omega
    · rw [up1_ne _ _ e] at h4; exact w17 b k h1 (by omega) h3 h4
  · by_cases e : k = 2 * actions + 1
    · rw [e, up1_eq] at h3; omega
    · rw [up1_ne _ _ e] at h3
      by_cases e1 : k = 2 * actions
      · rw [e1, up1_eq] at h3; omega
      · rw [up1_ne _ _ e1] at h3
        exact w20 k h1 (by omega) h3
theorem WT_eps (h : (WT epsilonN epsilonD wishes wants wantN wantD actions needs needTime needOf needHow needN needD changes changeTime changeOf changeHow changeN changeD lastOf lastN lastD firstN firstD)) (hND : (-100000 ≤ N ∧ N ≤ 100000) ∧ 0 < D ∧ D ≤ 1000) (hp : 0 < N) : (WT N D wishes wants wantN wantD actions needs needTime needOf needHow needN needD changes changeTime changeOf changeHow changeN changeD lastOf lastN lastD firstN firstD) := by
  obtain ⟨w1, w2, w3, w4, w5, w6, w7, w8, w9, w10, w11, w12, w13, w14, w15, w16, w17, w18, w19, w20, w21⟩ := h
  exact ⟨by omega, w2, w3, w4, w5, w6, w7, w8, w9, w10, w11, w12, w13, w14, w15, w16, w17, w18, w19, w20, w21⟩
theorem WT_first (h : (WT epsilonN epsilonD wishes wants wantN wantD actions needs needTime needOf needHow needN needD changes changeTime changeOf changeHow changeN changeD lastOf lastN lastD firstN firstD)) (hND : (-100000 ≤ N ∧ N ≤ 100000) ∧ 0 < D ∧ D ≤ 1000) : (WT epsilonN epsilonD wishes wants wantN wantD actions needs needTime needOf needHow needN needD changes changeTime changeOf changeHow changeN changeD lastOf lastN lastD (up1 firstN a N) (up1 firstD a D)) := by
  obtain ⟨w1, w2, w3, w4, w5, w6, w7, w8, w9, w10, w11, w12, w13, w14, w15, w16, w17, w18, w19, w20, w21⟩ := h
  exact ⟨w1, w2, w3, w4, w5, w6, w7, w8, w9, w10, w11, w12, w13, w14, w15, w16, w17, w18, w19, w20, up_all2 w21 (P := fun x y => -100000 ≤ x ∧ x ≤ 100000 ∧ 0 < y ∧ y ≤ 1000) (by omega)⟩
theorem WT_wish (h : (WT epsilonN epsilonD wishes wants wantN wantD actions needs needTime needOf needHow needN needD changes changeTime changeOf changeHow changeN changeD lastOf lastN lastD firstN firstD)) (hv : -1 ≤ t ∧ t ≤ 1) : (WT epsilonN epsilonD (up1 wishes a t) wants wantN wantD actions needs needTime needOf needHow needN needD changes changeTime changeOf changeHow changeN changeD lastOf lastN lastD firstN firstD) := by
  obtain ⟨w1, w2, w3, w4, w5, w6, w7, w8, w9, w10, w11, w12, w13, w14, w15, w16, w17, w18, w19, w20, w21⟩ := h
  exact ⟨w1, up_all w2 (P := fun x => -1 ≤ x ∧ x ≤ 1) hv, w3, w4, w5, w6, w7, w8, w9, w10, w11, w12, w13, w14, w15, w16, w17, w18, w19, w20, w21⟩
theorem WT_want (h : (WT epsilonN epsilonD wishes wants wantN wantD actions needs needTime needOf needHow needN needD changes changeTime changeOf changeHow changeN changeD lastOf lastN lastD firstN firstD)) (hND : (-100000 ≤ N ∧ N ≤ 100000) ∧ 0 < D ∧ D ≤ 1000) (hv : -1 ≤ t ∧ t ≤ 4) : (WT epsilonN epsilonD wishes (up1 wants a t) (up1 wantN a N) (up1 wantD a D) actions needs needTime needOf needHow needN needD changes changeTime changeOf changeHow changeN changeD lastOf lastN lastD firstN firstD) := by
  obtain ⟨w1, w2, w3, w4, w5, w6, w7, w8, w9, w10, w11, w12, w13, w14, w15, w16, w17, w18, w19, w20, w21⟩ := h
  exact ⟨w1, w2, up_all w3 (P := fun x => -1 ≤ x ∧ x ≤ 4) hv, up_all2 w4 (P := fun x y => -100000 ≤ x ∧ x ≤ 100000 ∧ 0 < y ∧ y ≤ 1000) (by omega), w5, w6, w7, w8, w9, w10, w11, w12, w13, w14, w15, w16, w17, w18, w19, w20, w21⟩
end W85
