/-! What the class keeps of an action, held against what the reference keeps of it. -/
def inN (needs : Int → Int) (a k : Int) : Prop := 8 * a ≤ k ∧ k < 8 * a + needs a
def inC (changes : Int → Int) (a k : Int) : Prop := 6 * a ≤ k ∧ k < 6 * a + changes a
def RELA (needs needTime needOf needHow needN needD changes changeTime changeOf changeHow changeN changeD lastOf lastN lastD : Int → Int) (a : Int) (nd ch : Int) (me : Int → Prop) (nT nF : Int → Int → Prop) (cs : Int) (cT cO cH cN cD : Int → Int) (mT mF : Int → Int → Prop) (as : Int) (aT aO aH aN aD : Int → Int) (cG sA : Int → Int → Prop) (dO dN dD : Int → Int) : Prop :=
  (nd = needs a ∧ ch = changes a)
  ∧ (∀ t i, nT t i ↔ ∃ k, inN needs a k ∧ needTime k = t ∧ needHow k = 11 ∧ needOf k = i)
  ∧ (∀ t i, nF t i ↔ ∃ k, inN needs a k ∧ needTime k = t ∧ needHow k = 10 ∧ needOf k = i)
  ∧ ((0 ≤ cs ∧ cs ≤ needs a) ∧ ∃ NL : Int → Int, (∀ i, 0 ≤ i → i < cs → (inN needs a (NL i) ∧ needHow (NL i) ≤ 9) ∧ cT i = needTime (NL i) ∧ cO i = needOf (NL i) ∧ cH i = needHow (NL i) ∧ cN i = needN (NL i) ∧ cD i = needD (NL i)) ∧ (∀ k, inN needs a k → needHow k ≤ 9 → ∃ i, 0 ≤ i ∧ i < cs ∧ NL i = k))
  ∧ (∀ t i, mT t i ↔ ∃ k, inC changes a k ∧ changeTime k = t ∧ changeHow k = 11 ∧ changeOf k = i)
  ∧ (∀ t i, mF t i ↔ ∃ k, inC changes a k ∧ changeTime k = t ∧ changeHow k = 10 ∧ changeOf k = i)
  ∧ ((0 ≤ as ∧ as ≤ changes a) ∧ ∃ AL : Int → Int, (∀ i, 0 ≤ i → i < as → (inC changes a (AL i) ∧ changeHow (AL i) ≤ 9) ∧ aT i = changeTime (AL i) ∧ aO i = changeOf (AL i) ∧ aH i = changeHow (AL i) ∧ aN i = changeN (AL i) ∧ aD i = changeD (AL i)) ∧ (∀ k, inC changes a k → changeHow k ≤ 9 → ∃ i, 0 ≤ i ∧ i < as ∧ AL i = k) ∧ (∀ i j, 0 ≤ i → i < j → j < as → AL i < AL j))
  ∧ (∀ t i, cG t i ↔ ∃ k, inC changes a k ∧ changeTime k = t ∧ ((9 < changeHow k ∧ changeOf k = i) ∨ (changeHow k ≤ 9 ∧ changeOf k + 16 = i)))
  ∧ (∀ t i, sA t i ↔ (∃ k, inN needs a k ∧ needTime k = t ∧ ((9 < needHow k ∧ needOf k = i) ∨ (needHow k ≤ 9 ∧ needOf k + 16 = i))) ∨ (∃ k, inC changes a k ∧ changeTime k = t ∧ (changeHow k = 0 ∨ changeHow k = 3) ∧ changeOf k + 16 = i))
  ∧ (∀ i, me i ↔ (0 ≤ lastOf (2 * a) ∧ lastOf (2 * a) + 16 = i) ∨ (0 ≤ lastOf (2 * a + 1) ∧ lastOf (2 * a + 1) + 16 = i))
  ∧ ((dO 0 = lastOf (2 * a + 0) ∧ (¬ lastOf (2 * a + 0) = -2 → dN 0 = lastN (2 * a + 0) ∧ dD 0 = lastD (2 * a + 0) ∧ Int.gcd (lastN (2 * a + 0)) (lastD (2 * a + 0)) = 1)) ∧ (dO 1 = lastOf (2 * a + 1) ∧ (¬ lastOf (2 * a + 1) = -2 → dN 1 = lastN (2 * a + 1) ∧ dD 1 = lastD (2 * a + 1) ∧ Int.gcd (lastN (2 * a + 1)) (lastD (2 * a + 1)) = 1)))
  ∧ (∀ k k1, inC changes a k → inC changes a k1 → changeTime k = changeTime k1 → (9 < changeHow k ↔ 9 < changeHow k1) → changeOf k = changeOf k1 → k = k1)
  ∧ (∀ k, inC changes a k → changeHow k ≤ 9 → Int.gcd (changeN k) (changeD k) = 1)
section RA
variable {needs needTime needOf needHow needN needD changes changeTime changeOf changeHow changeN changeD lastOf lastN lastD : Int → Int} {a : Int} {nd ch : Int} {me : Int → Prop} {nT nF : Int → Int → Prop} {cs : Int} {cT cO cH cN cD : Int → Int} {mT mF : Int → Int → Prop} {as : Int} {aT aO aH aN aD : Int → Int} {cG sA : Int → Int → Prop} {dO dN dD : Int → Int}
/-- the needs -/
theorem met_fit (h : RELA needs needTime needOf needHow needN needD changes changeTime changeOf changeHow changeN changeD lastOf lastN lastD a nd ch me nT nF cs cT cO cH cN cD mT mF as aT aO aH aN aD cG sA dO dN dD) (wnO : ∀ k, 0 ≤ needOf k ∧ needOf k ≤ 15 ∧ (needHow k ≤ 9 → needOf k ≤ 7)) (wnH : ∀ k, 0 ≤ needHow k ∧ needHow k ≤ 11 ∧ (needHow k ≤ 4 ∨ 10 ≤ needHow k)) {F : Int → Prop} {N D : Int → Int} {t : Int} : (((∀ i, 0 ≤ i → i < 24 → nT t i → F i) ∧ (∀ i, 0 ≤ i → i < 24 → ¬ (F i ∧ nF t i))) ∧ ∀ i, 0 ≤ i → i < cs → (cT i = t → cmps (cH i) (cmpF (N (cO i)) (D (cO i)) (cN i) (cD i)))) ↔ fit needs needTime needOf needHow needN needD F N D a t := by
  obtain ⟨-, hT, hF, ⟨-, NL, hN, hNs⟩, -⟩ := h
  constructor
  · rintro ⟨⟨h1, h2⟩, h3⟩ k k1 k2 k3
    have o1 := wnO k
    have o2 := wnH k
    by_cases hk : 9 < needHow k
    · refine Or.inl ⟨hk, ?_⟩
      by_cases h11 : needHow k = 11
      · exact ⟨fun _ => h11, fun _ => h1 (needOf k) (by omega) (by omega) ((hT t _).mpr ⟨k, ⟨k1, k2⟩, k3, h11, rfl⟩)⟩
      · exact ⟨fun z => absurd ⟨z, (hF t _).mpr ⟨k, ⟨k1, k2⟩, k3, by omega, rfl⟩⟩ (h2 (needOf k) (by omega) (by omega)), fun z => absurd z h11⟩
    · refine Or.inr ⟨hk, ?_⟩
      obtain ⟨i, i1, i2, i3⟩ := hNs k ⟨k1, k2⟩ (by omega)
      obtain ⟨-, e1, e2, e3, e4, e5⟩ := hN i i1 i2
      have := h3 i i1 i2 (by rw [e1, i3]; exact k3)
      rw [e2, e3, e4, e5, i3] at this
      exact this
  · intro h
    refine ⟨⟨fun i i1 i2 z => ?_, fun i i1 i2 ⟨z1, z2⟩ => ?_⟩, fun i i1 i2 z => ?_⟩
    · obtain ⟨k, k1, k2, k3, k4⟩ := (hT t i).mp z
      rcases h k k1.1 k1.2 k2 with ⟨y1, y2⟩ | ⟨y1, y2⟩
      · rw [← k4]; exact y2.mpr k3
      · omega
    · obtain ⟨k, k1, k2, k3, k4⟩ := (hF t i).mp z2
      rcases h k k1.1 k1.2 k2 with ⟨y1, y2⟩ | ⟨y1, y2⟩
      · rw [k4] at y2
        have := y2.mp z1
        omega
      · omega
    · obtain ⟨⟨j1, j2⟩, e1, e2, e3, e4, e5⟩ := hN i i1 i2
      rw [e1] at z
      rw [e2, e3, e4, e5]
      rcases h (NL i) j1.1 j1.2 z with ⟨y1, y2⟩ | ⟨y1, y2⟩
      · omega
      · exact y2
/-- how a thing is changed -/
theorem hch_iff (hu : ∀ k k1, inC changes a k → inC changes a k1 → changeTime k = changeTime k1 → (9 < changeHow k ↔ 9 < changeHow k1) → changeOf k = changeOf k1 → k = k1) (hc : 0 ≤ changes a) (wa : 0 ≤ a) {t of : Int} {P : Prop} : (hch changes changeTime changeHow changeOf a t P of = -1 ∧ ∀ k, inC changes a k → ¬ (changeTime k = t ∧ (9 < changeHow k ↔ P) ∧ changeOf k = of)) ∨ (∃ k, inC changes a k ∧ changeTime k = t ∧ (9 < changeHow k ↔ P) ∧ changeOf k = of ∧ hch changes changeTime changeHow changeOf a t P of = changeHow k ∧ ∀ k1, inC changes a k1 → changeTime k1 = t → (9 < changeHow k1 ↔ P) → changeOf k1 = of → k1 = k) := by
  unfold hch
  rcases fnd_bd (A := fun k => changeTime k = t ∧ (9 < changeHow k ↔ P) ∧ changeOf k = of) (changes a).toNat (6 * a) with ⟨h1, h2⟩ | ⟨h1, h2, h3, h4⟩
  · have e : chg changes changeTime changeHow changeOf a t P of = -1 := h1
    refine Or.inl ⟨by rw [e]; rfl, fun k hk => h2 k hk.1 (by have := hk.2; omega)⟩
  · have e : chg changes changeTime changeHow changeOf a t P of = fnd (fun k => changeTime k = t ∧ (9 < changeHow k ↔ P) ∧ changeOf k = of) (changes a).toNat (6 * a) := rfl
    rw [e]
    generalize fnd (fun k => changeTime k = t ∧ (9 < changeHow k ↔ P) ∧ changeOf k = of) (changes a).toNat (6 * a) = k at h1 h2 h3 h4
    refine Or.inr ⟨k, ⟨h1, by omega⟩, h3.1, h3.2.1, h3.2.2, by rw [if_neg (by omega)], fun k1 z1 z2 z3 z4 => hu k1 k z1 ⟨h1, by omega⟩ (by rw [z2, h3.1]) (z3.trans h3.2.1.symm) (by rw [z4, h3.2.2])⟩
/-- facts: what is changed, made and seen -/
theorem act_fact (h : RELA needs needTime needOf needHow needN needD changes changeTime changeOf changeHow changeN changeD lastOf lastN lastD a nd ch me nT nF cs cT cO cH cN cD mT mF as aT aO aH aN aD cG sA dO dN dD) (hc : 0 ≤ changes a) (wa : 0 ≤ a) (wcO : ∀ k, 0 ≤ changeOf k) (wnO : ∀ k, 0 ≤ needOf k) (wcH : ∀ k, 0 ≤ changeHow k ∧ changeHow k ≤ 11 ∧ (changeHow k ≤ 3 ∨ 10 ≤ changeHow k)) {t f : Int} (hf : f < 16) : (cG t f ↔ 0 ≤ hch changes changeTime changeHow changeOf a t True f) ∧ (mT t f ↔ hch changes changeTime changeHow changeOf a t True f = 11) ∧ (mF t f ↔ hch changes changeTime changeHow changeOf a t True f = 10) ∧ (sA t f ↔ looks needs needTime needHow needOf lastOf changes changeTime changeHow changeOf a t True f) ∧ ¬ me f := by
  obtain ⟨-, -, -, -, hmT, hmF, -, hG, hS, hM, -, hu, -⟩ := h
  have key := hch_iff (t := t) (of := f) (P := True) hu hc wa
  refine ⟨?_, ?_, ?_, ?_, ?_⟩
  · rw [hG]
    rcases key with ⟨k1, k2⟩ | ⟨k, k1, k2, k3, k4, k5, k6⟩
    · refine ⟨fun ⟨k, y1, y2, y3⟩ => ?_, fun z => by omega⟩
      rcases y3 with y3 | y3
      · exact absurd ⟨y2, ⟨fun _ => trivial, fun _ => y3.1⟩, y3.2⟩ (k2 k y1)
      · have := wcO k; omega
    · have := wcH k
      exact ⟨fun _ => by omega, fun _ => ⟨k, k1, k2, Or.inl ⟨k3.mpr trivial, k4⟩⟩⟩
  · rw [hmT]
    rcases key with ⟨k1, k2⟩ | ⟨k, k1, k2, k3, k4, k5, k6⟩
    · exact ⟨fun ⟨k, y1, y2, y3, y4⟩ => absurd ⟨y2, ⟨fun _ => trivial, fun _ => by omega⟩, y4⟩ (k2 k y1), fun z => by omega⟩
    · exact ⟨fun ⟨j, y1, y2, y3, y4⟩ => by rw [k5, ← k6 j y1 y2 ⟨fun _ => trivial, fun _ => by omega⟩ y4]; exact y3, fun z => ⟨k, k1, k2, by omega, k4⟩⟩
  · rw [hmF]
    rcases key with ⟨k1, k2⟩ | ⟨k, k1, k2, k3, k4, k5, k6⟩
    · exact ⟨fun ⟨k, y1, y2, y3, y4⟩ => absurd ⟨y2, ⟨fun _ => trivial, fun _ => by omega⟩, y4⟩ (k2 k y1), fun z => by omega⟩
    · exact ⟨fun ⟨j, y1, y2, y3, y4⟩ => by rw [k5, ← k6 j y1 y2 ⟨fun _ => trivial, fun _ => by omega⟩ y4]; exact y3, fun z => ⟨k, k1, k2, by omega, k4⟩⟩
  · rw [hS]
    unfold looks
    constructor
    · rintro (⟨k, y1, y2, y3⟩ | ⟨k, y1, y2, y3, y4⟩)
      · rcases y3 with y3 | y3
        · exact Or.inl ⟨k, y1.1, y1.2, y2, ⟨fun _ => trivial, fun _ => y3.1⟩, y3.2⟩
        · have := wnO k; omega
      · have := wcO k; omega
    · rintro (⟨k, y1, y2, y3, y4, y5⟩ | ⟨y1, _⟩)
      · exact Or.inl ⟨k, ⟨y1, y2⟩, y3, Or.inl ⟨y4.mpr trivial, y5⟩⟩
      · exact absurd trivial y1
  · rw [hM]
    rintro (⟨z1, z2⟩ | ⟨z1, z2⟩) <;> omega
/-- numbers: what is changed and seen -/
theorem act_num (h : RELA needs needTime needOf needHow needN needD changes changeTime changeOf changeHow changeN changeD lastOf lastN lastD a nd ch me nT nF cs cT cO cH cN cD mT mF as aT aO aH aN aD cG sA dO dN dD) (hc : 0 ≤ changes a) (wa : 0 ≤ a) (wcO : ∀ k, 0 ≤ changeOf k ∧ changeOf k ≤ 15) (wnO : ∀ k, 0 ≤ needOf k ∧ needOf k ≤ 15) (wcH : ∀ k, 0 ≤ changeHow k ∧ changeHow k ≤ 11 ∧ (changeHow k ≤ 3 ∨ 10 ≤ changeHow k)) {t n : Int} (hn : 0 ≤ n) : (cG t (n + 16) ↔ 0 ≤ hch changes changeTime changeHow changeOf a t False n) ∧ ¬ mT t (n + 16) ∧ ¬ mF t (n + 16) ∧ ((sA t (n + 16) ∨ (t = 0 ∧ me (n + 16))) ↔ looks needs needTime needHow needOf lastOf changes changeTime changeHow changeOf a t False n ∨ hch changes changeTime changeHow changeOf a t False n = 0) ∧ (hch changes changeTime changeHow changeOf a t False n ≤ 3) := by
  obtain ⟨-, -, -, -, hmT, hmF, -, hG, hS, hM, -, hu, -⟩ := h
  have key := hch_iff (t := t) (of := n) (P := False) hu hc wa
  refine ⟨?_, ?_, ?_, ?_, ?_⟩
  · rw [hG]
    rcases key with ⟨k1, k2⟩ | ⟨k, k1, k2, k3, k4, k5, k6⟩
    · refine ⟨fun ⟨k, y1, y2, y3⟩ => ?_, fun z => by omega⟩
      rcases y3 with y3 | y3
      · have := wcO k; omega
      · exact absurd ⟨y2, ⟨fun z => by omega, False.elim⟩, by omega⟩ (k2 k y1)
    · have := wcH k
      exact ⟨fun _ => by omega, fun _ => ⟨k, k1, k2, Or.inr ⟨Int.not_lt.mp (fun z => k3.mp z), by omega⟩⟩⟩
  · rw [hmT]
    rintro ⟨k, y1, y2, y3, y4⟩
    have := wcO k
    omega
  · rw [hmF]
    rintro ⟨k, y1, y2, y3, y4⟩
    have := wcO k
    omega
  · rw [hS, hM]
    unfold looks
    constructor
    · rintro ((⟨k, y1, y2, y3⟩ | ⟨k, y1, y2, y3, y4⟩) | ⟨y0, y1⟩)
      · rcases y3 with y3 | y3
        · have := wnO k; omega
        · exact Or.inl (Or.inl ⟨k, y1.1, y1.2, y2, ⟨fun z => by omega, False.elim⟩, by omega⟩)
      · have z1 : (9 < changeHow k ↔ False) := ⟨fun z => by omega, False.elim⟩
        rcases key with ⟨k1, k2⟩ | ⟨j, k1, k2, k3, k4, k5, k6⟩
        · exact absurd ⟨y2, z1, by omega⟩ (k2 k y1)
        · have e := k6 k y1 y2 z1 (by omega)
          rw [← e] at k5
          rcases y3 with y3 | y3
          · exact Or.inr (by omega)
          · exact Or.inl (Or.inr ⟨fun z => z, Or.inr (by omega)⟩)
      · refine Or.inl (Or.inr ⟨fun z => z, Or.inl ⟨y0, ?_⟩⟩)
        rcases y1 with y1 | y1 <;> omega
    · rintro ((⟨k, y1, y2, y3, y4, y5⟩ | ⟨_, ⟨y0, y1⟩ | y1⟩) | y1)
      · exact Or.inl (Or.inl ⟨k, ⟨y1, y2⟩, y3, Or.inr ⟨Int.not_lt.mp (fun z => y4.mp z), by omega⟩⟩)
      · refine Or.inr ⟨y0, ?_⟩
        rcases y1 with y1 | y1 <;> omega
      · rcases key with ⟨k1, k2⟩ | ⟨j, k1, k2, k3, k4, k5, k6⟩
        · omega
        · exact Or.inl (Or.inr ⟨j, k1, k2, by omega, by omega⟩)
      · rcases key with ⟨k1, k2⟩ | ⟨j, k1, k2, k3, k4, k5, k6⟩
        · omega
        · exact Or.inl (Or.inr ⟨j, k1, k2, by omega, by omega⟩)
  · rcases key with ⟨k1, k2⟩ | ⟨j, k1, k2, k3, k4, k5, k6⟩
    · omega
    · have := wcH j
      have : ¬ 9 < changeHow j := fun z => k3.mp z
      omega
end RA
section RB
variable {needs needTime needOf needHow needN needD changes changeTime changeOf changeHow changeN changeD lastOf lastN lastD : Int → Int} {a : Int} {nd ch : Int} {me : Int → Prop} {nT nF : Int → Int → Prop} {cs : Int} {cT cO cH cN cD : Int → Int} {mT mF : Int → Int → Prop} {as : Int} {aT aO aH aN aD : Int → Int} {cG sA : Int → Int → Prop} {dO dN dD : Int → Int}
variable {a2 : Int} {nd2 ch2 : Int} {me2 : Int → Prop} {nT2 nF2 : Int → Int → Prop} {cs2 : Int} {cT2 cO2 cH2 cN2 cD2 : Int → Int} {mT2 mF2 : Int → Int → Prop} {as2 : Int} {aT2 aO2 aH2 aN2 aD2 : Int → Int} {cG2 sA2 : Int → Int → Prop} {dO2 dN2 dD2 : Int → Int}
theorem int_interf (h : RELA needs needTime needOf needHow needN needD changes changeTime changeOf changeHow changeN changeD lastOf lastN lastD a nd ch me nT nF cs cT cO cH cN cD mT mF as aT aO aH aN aD cG sA dO dN dD) (g : RELA needs needTime needOf needHow needN needD changes changeTime changeOf changeHow changeN changeD lastOf lastN lastD a2 nd2 ch2 me2 nT2 nF2 cs2 cT2 cO2 cH2 cN2 cD2 mT2 mF2 as2 aT2 aO2 aH2 aN2 aD2 cG2 sA2 dO2 dN2 dD2) (hc : ∀ a, 0 ≤ changes a) (wa : 0 ≤ a) (wa2 : 0 ≤ a2) (wcO : ∀ k, 0 ≤ changeOf k ∧ changeOf k ≤ 15) (wnO : ∀ k, 0 ≤ needOf k ∧ needOf k ≤ 15) (wcH : ∀ k, 0 ≤ changeHow k ∧ changeHow k ≤ 11 ∧ (changeHow k ≤ 3 ∨ 10 ≤ changeHow k)) {t t2 : Int} : (∃ i, 0 ≤ i ∧ i < 24 ∧ ((((cG t i ∧ (sA2 t2 i ∨ (t2 = 0 ∧ me2 i))) ∨ (cG2 t2 i ∧ (sA t i ∨ (t = 0 ∧ me i)))) ∨ (mT t i ∧ mF2 t2 i)) ∨ (mF t i ∧ mT2 t2 i))) ↔ interf needs needTime needHow needOf lastOf changes changeTime changeHow changeOf a t a2 t2 := by
  have facts : ∀ f, 0 ≤ f → f < 16 → ((((cG t f ∧ (sA2 t2 f ∨ (t2 = 0 ∧ me2 f))) ∨ (cG2 t2 f ∧ (sA t f ∨ (t = 0 ∧ me f)))) ∨ (mT t f ∧ mF2 t2 f)) ∨ (mF t f ∧ mT2 t2 f) ↔ clash needs needTime needHow needOf lastOf changes changeTime changeHow changeOf a t a2 t2 True f) := fun f _ hf => by
    obtain ⟨p1, p2, p3, p4, p5⟩ := act_fact h (hc a) wa (fun k => (wcO k).1) (fun k => (wnO k).1) wcH (t := t) hf
    obtain ⟨q1, q2, q3, q4, q5⟩ := act_fact g (hc a2) wa2 (fun k => (wcO k).1) (fun k => (wnO k).1) wcH (t := t2) hf
    have b1 : hch changes changeTime changeHow changeOf a t True f = -1 ∨ hch changes changeTime changeHow changeOf a t True f = 10 ∨ hch changes changeTime changeHow changeOf a t True f = 11 := by
      rcases hch_iff (t := t) (of := f) (P := True) h.2.2.2.2.2.2.2.2.2.2.2.1 (hc a) wa with ⟨k1, _⟩ | ⟨k, _, _, k3, _, k5, _⟩
      · exact Or.inl k1
      · have := wcH k
        have := k3.mpr trivial
        omega
    have b2 : hch changes changeTime changeHow changeOf a2 t2 True f = -1 ∨ hch changes changeTime changeHow changeOf a2 t2 True f = 10 ∨ hch changes changeTime changeHow changeOf a2 t2 True f = 11 := by
      rcases hch_iff (t := t2) (of := f) (P := True) g.2.2.2.2.2.2.2.2.2.2.2.1 (hc a2) wa2 with ⟨k1, _⟩ | ⟨k, _, _, k3, _, k5, _⟩
      · exact Or.inl k1
      · have := wcH k
        have := k3.mpr trivial
        omega
    rw [p1, p2, p3, p4, q1, q2, q3, q4]
    unfold clash
    constructor
    · rintro (((⟨z1, z2⟩ | ⟨z1, z2⟩) | ⟨z1, z2⟩) | ⟨z1, z2⟩)
      · exact Or.inl ⟨z1, z2.resolve_right (fun y => q5 y.2)⟩
      · exact Or.inr (Or.inl ⟨z1, z2.resolve_right (fun y => p5 y.2)⟩)
      · exact Or.inr (Or.inr ⟨by omega, by omega, Or.inl ⟨trivial, by omega⟩⟩)
      · exact Or.inr (Or.inr ⟨by omega, by omega, Or.inl ⟨trivial, by omega⟩⟩)
    · rintro (⟨z1, z2⟩ | ⟨z1, z2⟩ | ⟨z1, z2, z3⟩)
      · exact Or.inl (Or.inl (Or.inl ⟨z1, Or.inl z2⟩))
      · exact Or.inl (Or.inl (Or.inr ⟨z1, Or.inl z2⟩))
      · have z4 := (z3.resolve_right (fun y => y.1 trivial)).2
        rcases b1 with b1 | b1 | b1
        · omega
        · exact Or.inr ⟨b1, by omega⟩
        · exact Or.inl (Or.inr ⟨b1, by omega⟩)
  have nums : ∀ n, 0 ≤ n → n < 8 → ((((cG t (n + 16) ∧ (sA2 t2 (n + 16) ∨ (t2 = 0 ∧ me2 (n + 16)))) ∨ (cG2 t2 (n + 16) ∧ (sA t (n + 16) ∨ (t = 0 ∧ me (n + 16))))) ∨ (mT t (n + 16) ∧ mF2 t2 (n + 16))) ∨ (mF t (n + 16) ∧ mT2 t2 (n + 16)) ↔ clash needs needTime needHow needOf lastOf changes changeTime changeHow changeOf a t a2 t2 False n) := fun n hn _ => by
    obtain ⟨p1, p2, p3, p4, p5⟩ := act_num h (hc a) wa wcO wnO wcH (t := t) hn
    obtain ⟨q1, q2, q3, q4, q5⟩ := act_num g (hc a2) wa2 wcO wnO wcH (t := t2) hn
    rw [p1, p4, q1, q4]
    unfold clash
    constructor
    · rintro (((⟨z1, z2⟩ | ⟨z1, z2⟩) | ⟨z1, z2⟩) | ⟨z1, z2⟩)
      · rcases z2 with z2 | z2
        · exact Or.inl ⟨z1, z2⟩
        · exact Or.inr (Or.inr ⟨z1, by omega, Or.inr ⟨fun y => y, Or.inr (by omega)⟩⟩)
      · rcases z2 with z2 | z2
        · exact Or.inr (Or.inl ⟨z1, z2⟩)
        · exact Or.inr (Or.inr ⟨by omega, z1, Or.inr ⟨fun y => y, Or.inl (by omega)⟩⟩)
      · exact absurd z1 p2
      · exact absurd z1 p3
    · have l3 : ∀ {x u : Int}, hch changes changeTime changeHow changeOf x u False n = 3 → looks needs needTime needHow needOf lastOf changes changeTime changeHow changeOf x u False n := fun {x u} z => Or.inr ⟨fun y => y, Or.inr z⟩
      rintro (⟨z1, z2⟩ | ⟨z1, z2⟩ | ⟨z1, z2, z3⟩)
      · exact Or.inl (Or.inl (Or.inl ⟨z1, Or.inl z2⟩))
      · exact Or.inl (Or.inl (Or.inr ⟨z1, Or.inl z2⟩))
      · rcases (z3.resolve_left (fun y => y.1)).2 with z4 | z4
        · refine Or.inl (Or.inl (Or.inr ⟨z2, ?_⟩))
          by_cases h0 : hch changes changeTime changeHow changeOf a t False n = 0
          · exact Or.inr h0
          · exact Or.inl (l3 (by omega))
        · refine Or.inl (Or.inl (Or.inl ⟨z1, ?_⟩))
          by_cases h0 : hch changes changeTime changeHow changeOf a2 t2 False n = 0
          · exact Or.inr h0
          · exact Or.inl (l3 (by omega))
  unfold interf
  constructor
  · rintro ⟨i, i1, i2, i3⟩
    by_cases hi : i < 16
    · exact Or.inl ⟨i, i1, hi, (facts i i1 hi).mp i3⟩
    · refine Or.inr ⟨i - 16, by omega, by omega, (nums (i - 16) (by omega) (by omega)).mp ?_⟩
      rw [show i - 16 + 16 = i by omega]
      exact i3
  · rintro (⟨f, f1, f2, f3⟩ | ⟨n, n1, n2, n3⟩)
    · exact ⟨f, f1, by omega, (facts f f1 f2).mpr f3⟩
    · exact ⟨n + 16, by omega, by omega, (nums n n1 n2).mpr n3⟩
/-- a fraction in lowest terms stays as it is -/
theorem nN_low {n d : Int} (h : Int.gcd n d = 1) : nN n d = n := by unfold nN; rw [h]; exact Int.ediv_one _
theorem nD_low {n d : Int} (h : Int.gcd n d = 1) : nD n d = d := by unfold nD; rw [h]; exact Int.ediv_one _
theorem cal_alt {way nn nd n d : Int} (h : Int.gcd n d = 1) : calN way nn nd n d = nN (rawN way nn nd n d) (rawD way nd d) ∧ calD way nn nd n d = nD (rawN way nn nd n d) (rawD way nd d) := by
  unfold calN calD
  by_cases hw : way = 0
  · rw [if_pos hw, if_pos hw]
    have e1 : rawN way nn nd n d = n := by unfold rawN; rw [if_pos hw]
    have e2 : rawD way nd d = d := by unfold rawD; rw [if_pos hw]
    rw [e1, e2, nN_low h, nD_low h]
    exact ⟨rfl, rfl⟩
  · rw [if_neg hw, if_neg hw]
    exact ⟨rfl, rfl⟩
/-- the changes, from a place in the row on -/
theorem ch_chAll (h : RELA needs needTime needOf needHow needN needD changes changeTime changeOf changeHow changeN changeD lastOf lastN lastD a nd ch me nT nF cs cT cO cH cN cD mT mF as aT aO aH aN aD cG sA dO dN dD) (wcH : ∀ k, 0 ≤ changeHow k ∧ changeHow k ≤ 11 ∧ (changeHow k ≤ 3 ∨ 10 ≤ changeHow k)) {t : Int} {F : Int → Prop} {N D : Int → Int} : chAll changeTime changeOf changeHow changeN changeD t (changes a).toNat (6 * a) (F, N, D) = (chN aT aO aH aN aD t as.toNat 0 (N, D)).map (fun S => ((fun i => (F i ∧ ¬ mF t i) ∨ mT t i), S.1, S.2)) := by
  obtain ⟨-, -, -, -, hmT, hmF, ⟨hs, AL, hA, hAs, hAm⟩, -, -, -, -, hu, hlow⟩ := h
  have key : ∀ (n : Nat) (k i : Int) (F1 : Int → Prop) (N1 D1 : Int → Int), k + n = 6 * a + changes a → 6 * a ≤ k → 0 ≤ i → i ≤ as → (∀ j, 0 ≤ j → j < i → AL j < k) → (∀ j, i ≤ j → j < as → k ≤ AL j) → chAll changeTime changeOf changeHow changeN changeD t n k (F1, N1, D1) = (chN aT aO aH aN aD t (as - i).toNat i (N1, D1)).map (fun S => ((fun x => (F1 x ∧ ¬ ∃ q, k ≤ q ∧ q < k + n ∧ changeTime q = t ∧ changeHow q = 10 ∧ changeOf q = x) ∨ ∃ q, k ≤ q ∧ q < k + n ∧ changeTime q = t ∧ changeHow q = 11 ∧ changeOf q = x), S.1, S.2)) := by
    intro n
    induction n with
    | zero =>
      intro k i F1 N1 D1 hk hk2 hi hi2 hlo hhi
      have e : i = as := by
        refine Classical.byContradiction (fun z => ?_)
        have := hhi i (by omega) (by omega)
        have := ((hA i hi (by omega)).1.1).2
        omega
      subst e
      rw [show (i - i).toNat = 0 by omega, chAll, chN]
      simp only [Option.map_some]
      refine congrArg some (congrArg (fun X => (X, N1, D1)) (funext (fun x => propext ?_)))
      constructor
      · intro z
        exact Or.inl ⟨z, fun ⟨q, q1, q2, _⟩ => by omega⟩
      · rintro (z | ⟨q, q1, q2, _⟩)
        · exact z.1
        · omega
    | succ n ih =>
      intro k i F1 N1 D1 hk hk2 hi hi2 hlo hhi
      have hkr : inC changes a k := ⟨hk2, by omega⟩
      have wk := wcH k
      have ek : k + ((n + 1 : Nat) : Int) = k + 1 + n := by omega
      by_cases hnum : changeHow k ≤ 9
      · -- a number
        obtain ⟨j, j1, j2, j3⟩ := hAs k hkr hnum
        have hji : j = i := by
          by_cases h1 : j < i
          · have := hlo j j1 h1; omega
          · by_cases h2 : i < j
            · have := hAm i j hi h2 j2
              have := hhi i (by omega) (by omega)
              omega
            · omega
        subst hji
        obtain ⟨-, e1, e2, e3, e4, e5⟩ := hA j hi j2
        rw [j3] at e1 e2 e3 e4 e5
        have eas : (as - j).toNat = (as - (j + 1)).toNat + 1 := by omega
        have hlo1 : ∀ q, 0 ≤ q → q < j + 1 → AL q < k + 1 := fun q z1 z2 => by
          by_cases hq : q = j
          · rw [hq, j3]; omega
          · have := hlo q z1 (by omega); omega
        have hhi1 : ∀ q, j + 1 ≤ q → q < as → k + 1 ≤ AL q := fun q z1 z2 => by
          have := hAm j q hi (by omega) z2
          omega
        have hfun : ∀ (F2 : Int → Prop), (fun x => (F2 x ∧ ¬ ∃ q, k + 1 ≤ q ∧ q < k + 1 + n ∧ changeTime q = t ∧ changeHow q = 10 ∧ changeOf q = x) ∨ ∃ q, k + 1 ≤ q ∧ q < k + 1 + n ∧ changeTime q = t ∧ changeHow q = 11 ∧ changeOf q = x) = (fun x => (F2 x ∧ ¬ ∃ q, k ≤ q ∧ q < k + 1 + n ∧ changeTime q = t ∧ changeHow q = 10 ∧ changeOf q = x) ∨ ∃ q, k ≤ q ∧ q < k + 1 + n ∧ changeTime q = t ∧ changeHow q = 11 ∧ changeOf q = x) := fun F2 => funext (fun x => propext (or_congr (and_congr_right (fun _ => not_congr ⟨fun ⟨q, q1, q2, q3, q4, q5⟩ => ⟨q, by omega, q2, q3, q4, q5⟩, fun ⟨q, q1, q2, q3, q4, q5⟩ => ⟨q, by
            by_cases hq : q = k
            · rw [hq] at q4; omega
            · omega, q2, q3, q4, q5⟩⟩)) ⟨fun ⟨q, q1, q2, q3, q4, q5⟩ => ⟨q, by omega, q2, q3, q4, q5⟩, fun ⟨q, q1, q2, q3, q4, q5⟩ => ⟨q, by
            by_cases hq : q = k
            · rw [hq] at q4; omega
            · omega, q2, q3, q4, q5⟩⟩))
        rw [ek, eas, chAll, chN, e1]
        by_cases hT : changeTime k = t
        · rw [if_pos hT, if_pos hT, if_neg (by omega), e2, e3, e4, e5]
          have c1 : calN (changeHow k) (N1 (changeOf k)) (D1 (changeOf k)) (changeN k) (changeD k) = altN changeOf changeHow changeN changeD k N1 D1 := (cal_alt (hlow k hkr hnum)).1
          have c2 : calD (changeHow k) (N1 (changeOf k)) (D1 (changeOf k)) (changeN k) (changeD k) = altD changeOf changeHow changeN changeD k N1 D1 := (cal_alt (hlow k hkr hnum)).2
          dsimp only
          rw [c1, c2]
          by_cases hL : longP (altN changeOf changeHow changeN changeD k N1 D1) (altD changeOf changeHow changeN changeD k N1 D1)
          · rw [if_pos hL, if_pos hL]
            rfl
          · rw [if_neg hL, if_neg hL]
            have := ih (k + 1) (j + 1) F1 (up1 N1 (changeOf k) (altN changeOf changeHow changeN changeD k N1 D1)) (up1 D1 (changeOf k) (altD changeOf changeHow changeN changeD k N1 D1)) (by omega) (by omega) (by omega) (by omega) hlo1 hhi1
            rw [this, hfun F1]
        · rw [if_neg hT, if_neg hT]
          have := ih (k + 1) (j + 1) F1 N1 D1 (by omega) (by omega) (by omega) (by omega) hlo1 hhi1
          rw [this, hfun F1]
      · -- a fact
        have hlo1 : ∀ q, 0 ≤ q → q < i → AL q < k + 1 := fun q z1 z2 => by have := hlo q z1 z2; omega
        have hhi1 : ∀ q, i ≤ q → q < as → k + 1 ≤ AL q := fun q z1 z2 => by
          have := hhi q z1 z2
          have h9 := (hA q (by omega) z2).1.2
          by_cases hq : AL q = k
          · rw [hq] at h9; omega
          · omega
        rw [ek, chAll]
        by_cases hT : changeTime k = t
        · rw [if_pos hT, if_pos (by omega)]
          have := ih (k + 1) i (up1 F1 (changeOf k) (changeHow k = 11)) N1 D1 (by omega) (by omega) hi hi2 hlo1 hhi1
          dsimp only
          rw [this]
          refine congrArg (fun X => Option.map X _) (funext (fun S => congrArg (fun X => (X, S.1, S.2)) (funext (fun x => propext ?_))))
          by_cases hx : x = changeOf k
          · subst hx
            rw [up1_eq]
            constructor
            · rintro (⟨z1, z2⟩ | ⟨q, q1, q2, q3, q4, q5⟩)
              · exact Or.inr ⟨k, by omega, by omega, hT, z1, rfl⟩
              · exact Or.inr ⟨q, by omega, q2, q3, q4, q5⟩
            · rintro (⟨z1, z2⟩ | ⟨q, q1, q2, q3, q4, q5⟩)
              · have h11 : changeHow k = 11 := by
                  refine Classical.byContradiction (fun y => z2 ⟨k, by omega, by omega, hT, by omega, rfl⟩)
                refine Or.inl ⟨h11, fun ⟨q, q1, q2, q3, q4, q5⟩ => ?_⟩
                have := hu q k ⟨by omega, by omega⟩ hkr (by rw [q3, hT]) ⟨fun _ => by omega, fun _ => by omega⟩ q5
                omega
              · have e := hu q k ⟨by omega, by omega⟩ hkr (by rw [q3, hT]) ⟨fun _ => by omega, fun _ => by omega⟩ q5
                rw [e] at q4
                refine Or.inl ⟨q4, fun ⟨r, r1, r2, r3, r4, r5⟩ => ?_⟩
                have := hu r k ⟨by omega, by omega⟩ hkr (by rw [r3, hT]) ⟨fun _ => by omega, fun _ => by omega⟩ r5
                omega
          · rw [up1_ne _ _ hx]
            refine or_congr (and_congr_right (fun _ => not_congr ⟨fun ⟨q, q1, q2, q3, q4, q5⟩ => ⟨q, by omega, q2, q3, q4, q5⟩, fun ⟨q, q1, q2, q3, q4, q5⟩ => ⟨q, ?_, q2, q3, q4, q5⟩⟩)) ⟨fun ⟨q, q1, q2, q3, q4, q5⟩ => ⟨q, by omega, q2, q3, q4, q5⟩, fun ⟨q, q1, q2, q3, q4, q5⟩ => ⟨q, ?_, q2, q3, q4, q5⟩⟩
            · by_cases hq : q = k
              · rw [hq] at q5; exact absurd q5.symm hx
              · omega
            · by_cases hq : q = k
              · rw [hq] at q5; exact absurd q5.symm hx
              · omega
        · rw [if_neg hT]
          have := ih (k + 1) i F1 N1 D1 (by omega) (by omega) hi hi2 hlo1 hhi1
          rw [this]
          refine congrArg (fun X => Option.map X _) (funext (fun S => congrArg (fun X => (X, S.1, S.2)) (funext (fun x => propext ?_))))
          refine or_congr (and_congr_right (fun _ => not_congr ⟨fun ⟨q, q1, q2, q3, q4, q5⟩ => ⟨q, by omega, q2, q3, q4, q5⟩, fun ⟨q, q1, q2, q3, q4, q5⟩ => ⟨q, ?_, q2, q3, q4, q5⟩⟩)) ⟨fun ⟨q, q1, q2, q3, q4, q5⟩ => ⟨q, by omega, q2, q3, q4, q5⟩, fun ⟨q, q1, q2, q3, q4, q5⟩ => ⟨q, ?_, q2, q3, q4, q5⟩⟩
          · by_cases hq : q = k
            · rw [hq] at q3; exact absurd q3 hT
            · omega
          · by_cases hq : q = k
            · rw [hq] at q3; exact absurd q3 hT
            · omega
  have hch : 0 ≤ changes a := by omega
  rw [key (changes a).toNat (6 * a) 0 F N D (by omega) (by omega) (by omega) hs.1 (fun j z1 z2 => by omega) (fun j z1 z2 => ((hA j z1 z2).1.1).1), show as - 0 = as by omega]
  refine congrArg (fun X => Option.map X _) (funext (fun S => congrArg (fun X => (X, S.1, S.2)) (funext (fun x => propext ?_))))
  rw [hmT, hmF]
  refine or_congr (and_congr_right (fun _ => not_congr ⟨fun ⟨q, q1, q2, q3, q4, q5⟩ => ⟨q, ⟨q1, by omega⟩, q3, q4, q5⟩, fun ⟨q, q1, q3, q4, q5⟩ => ⟨q, q1.1, by have := q1.2; omega, q3, q4, q5⟩⟩)) ⟨fun ⟨q, q1, q2, q3, q4, q5⟩ => ⟨q, ⟨q1, by omega⟩, q3, q4, q5⟩, fun ⟨q, q1, q3, q4, q5⟩ => ⟨q, q1.1, by have := q1.2; omega, q3, q4, q5⟩⟩
end RB
theorem cop_dvd {k m n : Int} (h : Int.gcd k m = 1) (h2 : k ∣ m * n) : k ∣ n := by
  rw [← Int.natAbs_dvd_natAbs] at h2 ⊢
  rw [Int.natAbs_mul] at h2
  exact Nat.Coprime.dvd_of_dvd_mul_left h h2
theorem low_uniq {n d n1 d1 : Int} (h : Int.gcd n d = 1) (h1 : Int.gcd n1 d1 = 1) (hd : 0 < d) (hd1 : 0 < d1) (he : n * d1 = n1 * d) : n = n1 ∧ d = d1 := by
  have a1 : d ∣ d1 := by
    have : d ∣ n * d1 := ⟨n1, by rw [he, Int.mul_comm]⟩
    exact cop_dvd (by rw [Int.gcd_comm]; exact h) this
  have a2 : d1 ∣ d := by
    have : d1 ∣ n1 * d := ⟨n, by rw [← he, Int.mul_comm]⟩
    exact cop_dvd (by rw [Int.gcd_comm]; exact h1) this
  have e : d = d1 := Int.le_antisymm (Int.le_of_dvd hd1 a1) (Int.le_of_dvd hd a2)
  subst e
  exact ⟨Int.eq_of_mul_eq_mul_right (Int.ne_of_gt hd) he, rfl⟩
theorem nlow {n d : Int} (hd : 0 < d) : Int.gcd (nN n d) (nD n d) = 1 := by
  unfold nN nD
  exact Int.gcd_ediv_gcd_ediv_gcd (by
    have := gcd_pos' (n := n) hd
    omega)
section RC
variable {needs needTime needOf needHow needN needD changes changeTime changeOf changeHow changeN changeD lastOf lastN lastD : Int → Int} {a : Int} {nd ch : Int} {me : Int → Prop} {nT nF : Int → Int → Prop} {cs : Int} {cT cO cH cN cD : Int → Int} {mT mF : Int → Int → Prop} {as : Int} {aT aO aH aN aD : Int → Int} {cG sA : Int → Int → Prop} {dO dN dD : Int → Int}
theorem wb_dur (h : RELA needs needTime needOf needHow needN needD changes changeTime changeOf changeHow changeN changeD lastOf lastN lastD a nd ch me nT nF cs cT cO cH cN cD mT mF as aT aO aH aN aD cG sA dO dN dD) {w : Int} (hw : w = 0 ∨ w = 1) {N D : Int → Int} : dO w = lastOf (2 * a + w) ∧ (¬ lastOf (2 * a + w) = -2 → (dN w = lastN (2 * a + w) ∧ dD w = lastD (2 * a + w)) ∧ wbN dO dN dD N D w = nN (durP N lastOf lastN (2 * a + w)) (durP D lastOf lastD (2 * a + w)) ∧ wbD dO dN dD N D w = nD (durP N lastOf lastN (2 * a + w)) (durP D lastOf lastD (2 * a + w))) := by
  have hh : dO w = lastOf (2 * a + w) ∧ (¬ lastOf (2 * a + w) = -2 → dN w = lastN (2 * a + w) ∧ dD w = lastD (2 * a + w) ∧ Int.gcd (lastN (2 * a + w)) (lastD (2 * a + w)) = 1) := by
    obtain ⟨-, -, -, -, -, -, -, -, -, -, ⟨h0, h1⟩, -⟩ := h
    rcases hw with hw | hw <;> subst hw
    · exact h0
    · exact h1
  refine ⟨hh.1, fun z => ?_⟩
  obtain ⟨e1, e2, e3⟩ := hh.2 z
  refine ⟨⟨e1, e2⟩, ?_⟩
  unfold wbN wbD durP
  rw [hh.1, e1, e2]
  by_cases h1 : lastOf (2 * a + w) = -1
  · rw [if_pos h1, if_pos h1, if_pos h1, if_pos h1, nN_low e3, nD_low e3]
    exact ⟨rfl, rfl⟩
  · rw [if_neg h1, if_neg h1, if_neg h1, if_neg h1, Int.mul_comm (lastN (2 * a + w)), Int.mul_comm (lastD (2 * a + w))]
    exact ⟨rfl, rfl⟩
end RC
/-- the least bound, as the class chooses it -/
theorem lb_cls {lastOf lastN lastD : Int → Int} {eN eD : Int} {N D : Int → Int} {a : Int} (he : Int.gcd eN eD = 1) (heD : 0 < eD) (hd : ¬ lastOf (2 * a + 0) = -2 → 0 < durP D lastOf lastD (2 * a + 0)) : (lastOf (2 * a + 0) = -2 → lbN lastOf lastN lastD eN eD N D a = eN ∧ lbD lastOf lastN lastD eN eD N D a = eD) ∧ (¬ lastOf (2 * a + 0) = -2 → (cmpF (nN (durP N lastOf lastN (2 * a + 0)) (durP D lastOf lastD (2 * a + 0))) (nD (durP N lastOf lastN (2 * a + 0)) (durP D lastOf lastD (2 * a + 0))) eN eD < 0 → lbN lastOf lastN lastD eN eD N D a = eN ∧ lbD lastOf lastN lastD eN eD N D a = eD) ∧ (¬ cmpF (nN (durP N lastOf lastN (2 * a + 0)) (durP D lastOf lastD (2 * a + 0))) (nD (durP N lastOf lastN (2 * a + 0)) (durP D lastOf lastD (2 * a + 0))) eN eD < 0 → lbN lastOf lastN lastD eN eD N D a = nN (durP N lastOf lastN (2 * a + 0)) (durP D lastOf lastD (2 * a + 0)) ∧ lbD lastOf lastN lastD eN eD N D a = nD (durP N lastOf lastN (2 * a + 0)) (durP D lastOf lastD (2 * a + 0)))) := by
  refine ⟨fun z => ?_, fun z => ?_⟩
  · unfold lbN lbD
    rw [if_pos z, if_pos z]
    exact ⟨rfl, rfl⟩
  · have hp := hd z
    have e0 := cmpF_red (n := durP N lastOf lastN (2 * a + 0)) (q := durP D lastOf lastD (2 * a + 0)) (m := eN) (e := eD) hp
    rw [e0]
    unfold lbN lbD
    rw [if_neg z, if_neg z]
    refine ⟨fun y => ?_, fun y => ?_⟩
    · rw [if_neg (by omega), if_neg (by omega)]
      exact ⟨rfl, rfl⟩
    · by_cases hg : 0 < cmpF (durP N lastOf lastN (2 * a + 0)) (durP D lastOf lastD (2 * a + 0)) eN eD
      · rw [if_pos hg, if_pos hg]
        exact ⟨rfl, rfl⟩
      · rw [if_neg hg, if_neg hg]
        have hz : cmpF (durP N lastOf lastN (2 * a + 0)) (durP D lastOf lastD (2 * a + 0)) eN eD = 0 := by omega
        rw [← e0] at hz
        have hz2 : nN (durP N lastOf lastN (2 * a + 0)) (durP D lastOf lastD (2 * a + 0)) * eD = eN * nD (durP N lastOf lastN (2 * a + 0)) (durP D lastOf lastD (2 * a + 0)) := by
          unfold cmpF at hz
          split at hz
          · omega
          · split at hz
            · assumption
            · omega
        have := low_uniq (nlow hp) he (nD_pos hp).1 heD hz2
        exact ⟨this.1.symm, this.2.symm⟩
/-- the goal -/
theorem goal_cls {wishes wants wantN wantD : Int → Int} {gT gF : Int → Prop} (hT : ∀ i, 0 ≤ i → i < 24 → (gT i ↔ i < 16 ∧ wishes i = 1)) (hF : ∀ i, 0 ≤ i → i < 24 → (gF i ↔ i < 16 ∧ wishes i = 0)) (hw : ∀ k, -1 ≤ wishes k ∧ wishes k ≤ 1) (hv : ∀ k, -1 ≤ wants k ∧ wants k ≤ 4) {F : Int → Prop} {N D : Int → Int} : (((∀ i, 0 ≤ i → i < 24 → gT i → F i) ∧ (∀ i, 0 ≤ i → i < 24 → ¬ (F i ∧ gF i))) ∧ ∀ n, 0 ≤ n → n < 8 → ¬ wants n = -1 → cmps (wants n) (cmpF (N n) (D n) (wantN n) (wantD n))) ↔ goal wishes wants wantN wantD F N D := by
  constructor
  · rintro ⟨⟨h1, h2⟩, h3⟩
    refine ⟨fun f f1 f2 f3 => ?_, fun n n1 n2 n3 => h3 n n1 n2 (by omega)⟩
    have := hw f
    by_cases h : wishes f = 1
    · exact ⟨fun _ => h, fun _ => h1 f f1 (by omega) ((hT f f1 (by omega)).mpr ⟨f2, h⟩)⟩
    · exact ⟨fun z => absurd ⟨z, (hF f f1 (by omega)).mpr ⟨f2, by omega⟩⟩ (h2 f f1 (by omega)), fun z => absurd z h⟩
  · rintro ⟨h1, h2⟩
    refine ⟨⟨fun i i1 i2 z => ?_, fun i i1 i2 ⟨z1, z2⟩ => ?_⟩, fun n n1 n2 n3 => h2 n n1 n2 (by have := hv n; omega)⟩
    · obtain ⟨y1, y2⟩ := (hT i i1 i2).mp z
      exact (h1 i i1 y1 (by omega)).mpr y2
    · obtain ⟨y1, y2⟩ := (hF i i1 i2).mp z2
      have := (h1 i i1 y1 (by omega)).mp z1
      omega
