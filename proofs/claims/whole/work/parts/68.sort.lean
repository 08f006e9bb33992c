/-! Points in the order of their times. -/
section SRT
variable {tN tD : Int → Int}
def leP (tN tD : Int → Int) (p q : Int) : Prop := leF (tN p) (tD p) (tN q) (tD q)
def Rr (tN tD : Int → Int) (p q : Int) : Prop := leP tN tD p q ∧ (leP tN tD q p → p < q)
def Srt (tN tD : Int → Int) (o : Int → Int) (k : Int) : Prop := (∀ i, 0 ≤ i → i < k → 0 ≤ o i ∧ o i < k) ∧ (∀ i j, 0 ≤ i → i < j → j < k → Rr tN tD (o i) (o j))
theorem leP_tr {p q r : Int} (h1 : 0 < tD p) (h2 : 0 < tD q) (h3 : 0 < tD r) (a : leP tN tD p q) (b : leP tN tD q r) : leP tN tD p r := leF_trans h1 h2 h3 a b
theorem leP_to (p q : Int) : leP tN tD p q ∨ leP tN tD q p := leF_total _ _ _ _
/-- while a point moves down -/
def shF (o : Int → Int) (pl k : Int) : Int → Int := fun i => if pl < i ∧ i ≤ k then o (i - 1) else o i
theorem shF_0 (o : Int → Int) (k : Int) : shF o k k = o := by
  funext i
  unfold shF
  rw [if_neg (by omega)]
theorem shF_s {o : Int → Int} {pl k : Int} (h : pl ≤ k) : up1 (shF o pl k) pl (shF o pl k (pl - 1)) = shF o (pl - 1) k := by
  funext i
  by_cases hi : i = pl
  · rw [hi, up1_eq]
    unfold shF
    rw [if_neg (by omega), if_pos (by omega)]
  · rw [up1_ne _ _ hi]
    unfold shF
    by_cases h2 : pl < i ∧ i ≤ k
    · rw [if_pos h2, if_pos (by omega)]
    · rw [if_neg h2, if_neg (by omega)]
theorem Srt.ins {o : Int → Int} {k pl : Int} (h : Srt tN tD o k) (hD : ∀ p, 0 ≤ p → p ≤ k → 0 < tD p) (hk : 0 ≤ k) (h0 : 0 ≤ pl) (h1 : pl ≤ k) (hlo : 0 < pl → leP tN tD (o (pl - 1)) k) (hhi : ∀ i, pl ≤ i → i < k → ¬ leP tN tD (o i) k) : Srt tN tD (up1 (shF o pl k) pl k) (k + 1) := by
  obtain ⟨a1, a2⟩ := h
  have val : ∀ i, 0 ≤ i → i < k + 1 → (i < pl ∧ up1 (shF o pl k) pl k i = o i) ∨ (i = pl ∧ up1 (shF o pl k) pl k i = k) ∨ (pl < i ∧ up1 (shF o pl k) pl k i = o (i - 1)) := fun i z1 z2 => by
    by_cases hi : i = pl
    · exact Or.inr (Or.inl ⟨hi, by rw [hi, up1_eq]⟩)
    · rw [up1_ne _ _ hi]
      unfold shF
      by_cases h2 : pl < i
      · rw [if_pos (by omega)]
        exact Or.inr (Or.inr ⟨h2, rfl⟩)
      · rw [if_neg (by omega)]
        exact Or.inl ⟨by omega, rfl⟩
  have low : ∀ i, 0 ≤ i → i < pl → leP tN tD (o i) k := fun i z1 z2 => by
    by_cases hi : i = pl - 1
    · rw [hi]; exact hlo (by omega)
    · have b1 := a1 i z1 (by omega)
      have b2 := a1 (pl - 1) (by omega) (by omega)
      exact leP_tr (hD _ b1.1 (by omega)) (hD _ b2.1 (by omega)) (hD _ hk (by omega)) (a2 i (pl - 1) z1 (by omega) (by omega)).1 (hlo (by omega))
  refine ⟨fun i z1 z2 => ?_, fun i j z1 z2 z3 => ?_⟩
  · rcases val i z1 z2 with ⟨y1, y2⟩ | ⟨y1, y2⟩ | ⟨y1, y2⟩
    · have := a1 i z1 (by omega); omega
    · omega
    · have := a1 (i - 1) (by omega) (by omega); omega
  · rcases val i z1 (by omega) with ⟨y1, y2⟩ | ⟨y1, y2⟩ | ⟨y1, y2⟩
    · rcases val j (by omega) z3 with ⟨x1, x2⟩ | ⟨x1, x2⟩ | ⟨x1, x2⟩
      · rw [y2, x2]; exact a2 i j z1 z2 (by omega)
      · rw [y2, x2]
        have := a1 i z1 (by omega)
        exact ⟨low i z1 y1, fun _ => by omega⟩
      · rw [y2, x2]; exact a2 i (j - 1) z1 (by omega) (by omega)
    · rcases val j (by omega) z3 with ⟨x1, x2⟩ | ⟨x1, x2⟩ | ⟨x1, x2⟩
      · omega
      · omega
      · rw [y2, x2]
        have h9 := hhi (j - 1) (by omega) (by omega)
        exact ⟨(leP_to _ _).resolve_left h9, fun z => absurd z h9⟩
    · rcases val j (by omega) z3 with ⟨x1, x2⟩ | ⟨x1, x2⟩ | ⟨x1, x2⟩
      · omega
      · omega
      · rw [y2, x2]; exact a2 (i - 1) (j - 1) (by omega) (by omega) (by omega)
theorem Srt.inj {o : Int → Int} {k : Int} (h : Srt tN tD o k) : ∀ i j, 0 ≤ i → i < j → j < k → ¬ o i = o j := fun i j z1 z2 z3 z => by
  have := (h.2 i j z1 z2 z3)
  rw [z] at this
  have := this.2 this.1
  omega
theorem Srt.onto {o : Int → Int} {k : Int} (h : Srt tN tD o k) : ∀ p, 0 ≤ p → p < k → ∃ i, 0 ≤ i ∧ i < k ∧ o i = p := fun p z1 z2 => by
  obtain ⟨j, j1, j2, j3⟩ := inj_full (n := k.toNat) (T := o) (fun i y1 y2 => by have := h.1 i y1 (by omega); omega) (fun i j y1 y2 y3 => h.inj i j y1 y2 (by omega)) p z1 (by omega)
  exact ⟨j, j1, by omega, j3⟩
/-- the points of one time -/
def grp (o : Int → Int) (f to : Int) : Int → Prop := fun p => ∃ i, f ≤ i ∧ i < to ∧ o i = p
theorem grp_now {o : Int → Int} {m f to : Int} (h : Srt tN tD o m) (hD : ∀ p, 0 ≤ p → p < m → 0 < tD p) (h0 : 0 ≤ f) (h1 : f < to) (h2 : to ≤ m) (he : ∀ i, f ≤ i → i < to → leP tN tD (o i) (o f)) (hx : to = m ∨ ¬ leP tN tD (o to) (o f)) {p : Int} (p0 : 0 ≤ p) (p1 : p < m) : grp o f to p ↔ ¬ grp o 0 f p ∧ ∀ q, 0 ≤ q → q < m → ¬ grp o 0 f q → leP tN tD p q := by
  have bd : ∀ i, 0 ≤ i → i < m → 0 < tD (o i) := fun i z1 z2 => by have := h.1 i z1 z2; exact hD _ this.1 this.2
  have mono : ∀ i j, 0 ≤ i → i ≤ j → j < m → leP tN tD (o i) (o j) := fun i j z1 z2 z3 => by
    by_cases e : i = j
    · rw [e]; exact leF_refl _ _
    · exact (h.2 i j z1 (by omega) z3).1
  constructor
  · rintro ⟨i, i1, i2, rfl⟩
    refine ⟨fun ⟨j, j1, j2, j3⟩ => h.inj j i j1 (by omega) (by omega) j3, fun q q1 q2 q3 => ?_⟩
    obtain ⟨j, j1, j2, rfl⟩ := h.onto q q1 q2
    have hj : f ≤ j := Int.not_lt.mp (fun z => q3 ⟨j, j1, z, rfl⟩)
    exact leP_tr (bd i (by omega) (by omega)) (bd f h0 (by omega)) (bd j j1 j2) (he i i1 i2) (mono f j h0 hj j2)
  · rintro ⟨z1, z2⟩
    obtain ⟨j, j1, j2, rfl⟩ := h.onto p p0 p1
    have hj : f ≤ j := Int.not_lt.mp (fun z => z1 ⟨j, j1, z, rfl⟩)
    refine ⟨j, hj, Int.not_le.mp (fun z => ?_), rfl⟩
    rcases hx with hx | hx
    · omega
    · have o1 := h.1 f h0 (by omega)
      have l1 := z2 (o f) o1.1 o1.2 (fun ⟨i, i1, i2, i3⟩ => h.inj i f i1 i2 (by omega) i3)
      exact hx (leP_tr (bd to (by omega) (by omega)) (bd j j1 j2) (bd f h0 (by omega)) (mono to j (by omega) z j2) l1)
/-- points of one time come in the order of their numbers -/
theorem grp_asc {o : Int → Int} {m f to : Int} (h : Srt tN tD o m) (h0 : 0 ≤ f) (h2 : to ≤ m) (hD : ∀ p, 0 ≤ p → p < m → 0 < tD p) (he : ∀ i, f ≤ i → i < to → leP tN tD (o i) (o f)) {i j : Int} (hi : f ≤ i) (hij : i < j) (hj : j < to) : o i < o j := by
  have bd : ∀ i, 0 ≤ i → i < m → 0 < tD (o i) := fun i z1 z2 => by have := h.1 i z1 z2; exact hD _ this.1 this.2
  refine (h.2 i j (by omega) hij (by omega)).2 ?_
  have l1 : leP tN tD (o f) (o i) := by
    by_cases e : f = i
    · rw [e]; exact leF_refl _ _
    · exact (h.2 f i h0 (by omega) (by omega)).1
  exact leP_tr (bd j (by omega) (by omega)) (bd f h0 (by omega)) (bd i (by omega) (by omega)) (he j (by omega) hj) l1
end SRT
/-- changes along a part of the order -/
noncomputable def chSeq (CC : NS → Int → Option NS) (o : Int → Int) : Nat → Int → NS → Int ⊕ NS
  | 0, _, S => .inr S
  | n + 1, k, S => match CC S (o k) with
    | none => .inl (o k)
    | some S1 => chSeq CC o n (k + 1) S1
theorem chRow_seq {triedAction changes changeTime changeOf changeHow changeN changeD : Int → Int} {o : Int → Int} {f to m : Int} (hasc : ∀ i j, f ≤ i → i < j → j < to → o i < o j) (hr : ∀ i, f ≤ i → i < to → 0 ≤ o i ∧ o i < m) : ∀ (n : Nat) (p k : Int) (S : NS), p + n = m → 0 ≤ p → f ≤ k → k ≤ to → (∀ i, f ≤ i → i < k → o i < p) → (∀ i, k ≤ i → i < to → p ≤ o i) → chRow triedAction changes changeTime changeOf changeHow changeN changeD (grp o f to) n p S = chSeq (fun S p => chAll changeTime changeOf changeHow changeN changeD (tmo p) (changes (triedAction (p / 2))).toNat (6 * triedAction (p / 2)) S) o (to - k).toNat k S := by
  intro n
  induction n with
  | zero =>
    intro p k S hp p0 k1 k2 hlo hhi
    have e : k = to := by
      refine Classical.byContradiction (fun z => ?_)
      have := hhi k (by omega) (by omega)
      have := hr k k1 (by omega)
      omega
    subst e
    rw [show (k - k).toNat = 0 by omega]
    rfl
  | succ n ih =>
    intro p k S hp p0 k1 k2 hlo hhi
    rw [chRow]
    by_cases hg : grp o f to p
    · rw [if_pos hg]
      obtain ⟨i, i1, i2, i3⟩ := hg
      have hik : i = k := by
        by_cases h1 : i < k
        · have := hlo i i1 h1; omega
        · by_cases h2 : k < i
          · have := hasc k i k1 h2 i2
            have := hhi k (by omega) (by omega)
            omega
          · omega
      subst hik
      rw [show (to - i).toNat = (to - (i + 1)).toNat + 1 by omega, chSeq, i3]
      cases hc : chAll changeTime changeOf changeHow changeN changeD (tmo p) (changes (triedAction (p / 2))).toNat (6 * triedAction (p / 2)) S with
      | none => rfl
      | some S1 =>
        dsimp only
        exact ih (p + 1) (i + 1) S1 (by omega) (by omega) (by omega) (by omega) (fun j z1 z2 => by
          by_cases hj : j = i
          · rw [hj]; omega
          · have := hlo j z1 (by omega); omega) (fun j z1 z2 => by
          have := hasc i j k1 (by omega) z2
          omega)
    · rw [if_neg hg]
      exact ih (p + 1) k S (by omega) (by omega) k1 k2 (fun j z1 z2 => by have := hlo j z1 z2; omega) (fun j z1 z2 => by
        have := hhi j z1 z2
        have : ¬ o j = p := fun z => hg ⟨j, by omega, z2, z⟩
        omega)

theorem up1_up1 {α : Type _} (f : Int → α) (k : Int) (x y : α) : up1 (up1 f k x) k y = up1 f k y := by
  funext j
  by_cases hj : j = k
  · rw [hj, up1_eq, up1_eq]
  · rw [up1_ne _ _ hj, up1_ne _ _ hj, up1_ne _ _ hj]
theorem leP_c {f g f1 g1 : Int → Int} {p q : Int} (h1 : f1 p = f p) (h2 : g1 p = g p) (h3 : f1 q = f q) (h4 : g1 q = g q) : leP f1 g1 p q ↔ leP f g p q := by
  unfold leP
  rw [h1, h2, h3, h4]
theorem mix_lt {α : Type _} {k j : Int} (f g : Int → α) (h : j < k) : mix k f g j = f j := by unfold mix; rw [if_pos h]
theorem mix_ge {α : Type _} {k j : Int} (f g : Int → α) (h : ¬ j < k) : mix k f g j = g j := by unfold mix; rw [if_neg h]
section R68
variable {s0 s1 : AC} {rest : AM} {ab : Int → Nat}
variable {alS alM plS plP veW veF veP juP arP arB arU arF : Int}
variable {handN handD fiN fiD epN epD goH goN goD plA plBN plBD plLN plLD plR vsN vsD juTN juTD juO scN scD noN noD neN neD arR arL arT arA arS leN leD grN grD arLU arGU shN shD : Int → Int}
variable {stN stD : Int → Int → Int}
variable {stF : Int → Int → Prop}
variable {gT gF fiF plM vsF juM noF neF arM arH : Int → Prop}
variable {alE : Nat}
theorem sort_in {d n0 : Nat} {k : Int} (hk : 0 ≤ k ∧ k < 24) (hQ : ∀ p, 0 ≤ p → p ≤ k → 0 ≤ juTN p ∧ juTN p ≤ 100000000000 ∧ 0 < juTD p ∧ juTD p ≤ 1000000) {ord : Int → Int} (ho : ∀ i, 0 ≤ i → i < k → 0 ≤ ord i ∧ ord i < k) : ∀ (n : Nat) (pl : Int), pl = n → pl ≤ k → (∀ i, pl ≤ i → i < k → ¬ leP juTN juTD (ord i) k) → ∃ pl1, 0 ≤ pl1 ∧ pl1 ≤ k ∧ (0 < pl1 → leP juTN juTD (ord (pl1 - 1)) k) ∧ (∀ i, pl1 ≤ i → i < k → ¬ leP juTN juTD (ord i) k) ∧ ∀ o mem1, Rg false (d + 2) m_Judge_sortPoints n0 99 [(3, .int (iI pl1)), (0, .ref 33), (1, .ref 19), (2, .int (iI k))] [] (MC s0 s1 handN handD gT gF alE alS alM fiF fiN fiD epN epD goH goN goD plS plP plM plA plBN plBD plLN plLD plR veW veF veP vsF vsN vsD juM juP juTN juTD (shF ord pl1 k) scN scD noF noN noD neF neN neD arP arB arM arU arF arR arL arT arA arS leN leD grN grD arH arLU arGU shN shD stF stN stD rest) o mem1 → Rg false (d + 2) m_Judge_sortPoints n0 52 [(3, .int (iI pl)), (0, .ref 33), (1, .ref 19), (2, .int (iI k))] [] (MC s0 s1 handN handD gT gF alE alS alM fiF fiN fiD epN epD goH goN goD plS plP plM plA plBN plBD plLN plLD plR veW veF veP vsF vsN vsD juM juP juTN juTD (shF ord pl k) scN scD noF noN noD neF neN neD arP arB arM arU arF arR arL arT arA arS leN leD grN grD arH arLU arGU shN shD stF stN stD rest) o mem1 := by
  intro n
  induction n with
  | zero =>
    intro pl hp hpk hh
    refine ⟨pl, by omega, hpk, fun z => by omega, hh, fun o mem1 hg => ?_⟩
    refine Rg.step 53 F_Judge_sortPoints_52 rfl (fun _ => rfl) ?_
    refine Rg.ifleI 99 56 F_Judge_sortPoints_53 rfl rfl (by omega) (fun _ => ?_) (fun h53 => by omega)
    exact Rg.weak hg (by simp [lput1, lput2, Value.category, fi0, fi1, fi2, fi3] <;> first | rfl | exact ⟨rfl, rfl⟩) (by simp [lput1, lput2, Value.category, fi0, fi1, fi2, fi3] <;> first | rfl | exact ⟨rfl, rfl⟩)
  | succ n ih =>
    intro pl hp hpk hh
    have o1 := ho (pl - 1) (by omega) (by omega)
    have q1 := hQ (ord (pl - 1)) o1.1 (by omega)
    have q2 := hQ k hk.1 (by omega)
    have es : shF ord pl k (pl - 1) = ord (pl - 1) := by unfold shF; rw [if_neg (by omega)]
    have c0 := cmpF_b (juTN k) (juTD k) (juTN (ord (pl - 1))) (juTD (ord (pl - 1)))
    have c1 : cmpF (juTN k) (juTD k) (juTN (ord (pl - 1))) (juTD (ord (pl - 1))) < 0 ↔ ¬ leP juTN juTD (ord (pl - 1)) k := cmpF_lt0
    by_cases hc : leP juTN juTD (ord (pl - 1)) k
    · refine ⟨pl, by omega, hpk, fun _ => hc, hh, fun o mem1 hg => ?_⟩
      have c2 : ¬ cmpF (juTN k) (juTD k) (juTN (ord (pl - 1))) (juTD (ord (pl - 1))) < 0 := fun z => c1.mp z hc
      refine Rg.step 53 F_Judge_sortPoints_52 rfl (fun _ => rfl) ?_
      refine Rg.ifleI 99 56 F_Judge_sortPoints_53 rfl rfl (by omega) (fun h53 => by omega) (fun _ => ?_)
      refine Rg.step 57 F_Judge_sortPoints_56 rfl (fun _ => rfl) ?_
      refine Rg.getf 60 F_Judge_sortPoints_57 rfl rF_12_14 gC_33 rfl ?_
      refine Rg.step 61 F_Judge_sortPoints_60 rfl (fun _ => rfl) ?_
      refine Rg.step 62 F_Judge_sortPoints_61 rfl (fun _ => rfl) ?_
      refine Rg.getf 65 F_Judge_sortPoints_62 rfl rF_12_14 gC_33 rfl ?_
      refine Rg.step 66 F_Judge_sortPoints_65 rfl (fun _ => rfl) ?_
      refine Rg.getf 69 F_Judge_sortPoints_66 rfl rF_12_20 gC_33 rfl ?_
      refine Rg.step 70 F_Judge_sortPoints_69 rfl (fun _ => rfl) ?_
      refine Rg.step 71 F_Judge_sortPoints_70 rfl (fun _ => rfl) ?_
      refine Rg.subI 72 F_Judge_sortPoints_71 rfl ?_
      refine Rg.ild 73 F_Judge_sortPoints_72 rfl gC_37 (by omega) (by decide) ?_
      rw [es]
      refine Rg.call 76 F_Judge_sortPoints_73 rfl (one_V rM_12_59 (by decide) (by simp) rfl rfl gC_34 rfl) (Nat.le_of_ble_eq_true rfl) (Cg.any (c_FrI_order _ gF_juT gF_juT (by omega) (by omega) (by omega) (by omega) (by omega) (by omega))) ?_
      refine Rg.ifgeI 99 79 F_Judge_sortPoints_76 rfl rfl (by omega) (fun _ => ?_) (fun h76 => by omega)
      exact Rg.weak hg (by simp [lput1, lput2, Value.category, fi0, fi1, fi2, fi3] <;> first | rfl | exact ⟨rfl, rfl⟩) (by simp [lput1, lput2, Value.category, fi0, fi1, fi2, fi3] <;> first | rfl | exact ⟨rfl, rfl⟩)
    · have c2 := c1.mpr hc
      obtain ⟨pl1, a1, a2, a3, a4, ht⟩ := ih (pl - 1) (by omega) (by omega) (fun i z1 z2 => by
        by_cases hi : i = pl - 1
        · rw [hi]; exact hc
        · exact hh i (by omega) z2)
      refine ⟨pl1, a1, a2, a3, a4, fun o mem1 hg => ?_⟩
      refine Rg.step 53 F_Judge_sortPoints_52 rfl (fun _ => rfl) ?_
      refine Rg.ifleI 99 56 F_Judge_sortPoints_53 rfl rfl (by omega) (fun h53 => by omega) (fun _ => ?_)
      refine Rg.step 57 F_Judge_sortPoints_56 rfl (fun _ => rfl) ?_
      refine Rg.getf 60 F_Judge_sortPoints_57 rfl rF_12_14 gC_33 rfl ?_
      refine Rg.step 61 F_Judge_sortPoints_60 rfl (fun _ => rfl) ?_
      refine Rg.step 62 F_Judge_sortPoints_61 rfl (fun _ => rfl) ?_
      refine Rg.getf 65 F_Judge_sortPoints_62 rfl rF_12_14 gC_33 rfl ?_
      refine Rg.step 66 F_Judge_sortPoints_65 rfl (fun _ => rfl) ?_
      refine Rg.getf 69 F_Judge_sortPoints_66 rfl rF_12_20 gC_33 rfl ?_
      refine Rg.step 70 F_Judge_sortPoints_69 rfl (fun _ => rfl) ?_
      refine Rg.step 71 F_Judge_sortPoints_70 rfl (fun _ => rfl) ?_
      refine Rg.subI 72 F_Judge_sortPoints_71 rfl ?_
      refine Rg.ild 73 F_Judge_sortPoints_72 rfl gC_37 (by omega) (by decide) ?_
      rw [es]
      refine Rg.call 76 F_Judge_sortPoints_73 rfl (one_V rM_12_59 (by decide) (by simp) rfl rfl gC_34 rfl) (Nat.le_of_ble_eq_true rfl) (Cg.any (c_FrI_order _ gF_juT gF_juT (by omega) (by omega) (by omega) (by omega) (by omega) (by omega))) ?_
      refine Rg.ifgeI 99 79 F_Judge_sortPoints_76 rfl rfl (by omega) (fun h76 => by omega) (fun _ => ?_)
      refine Rg.step 80 F_Judge_sortPoints_79 rfl (fun _ => rfl) ?_
      refine Rg.getf 83 F_Judge_sortPoints_80 rfl rF_12_20 gC_33 rfl ?_
      refine Rg.step 84 F_Judge_sortPoints_83 rfl (fun _ => rfl) ?_
      refine Rg.step 85 F_Judge_sortPoints_84 rfl (fun _ => rfl) ?_
      refine Rg.getf 88 F_Judge_sortPoints_85 rfl rF_12_20 gC_33 rfl ?_
      refine Rg.step 89 F_Judge_sortPoints_88 rfl (fun _ => rfl) ?_
      refine Rg.step 90 F_Judge_sortPoints_89 rfl (fun _ => rfl) ?_
      refine Rg.subI 91 F_Judge_sortPoints_90 rfl ?_
      refine Rg.ild 92 F_Judge_sortPoints_91 rfl gC_37 (by omega) (by decide) ?_
      refine Rg.ist 93 F_Judge_sortPoints_92 rfl gC_37 (by decide) sC_juO (by omega) (by decide) ?_
      refine Rg.inc 96 F_Judge_sortPoints_93 rfl rfl (by decide) ?_
      refine Rg.step 52 F_Judge_sortPoints_96 rfl (fun _ => rfl) ?_
      rw [shF_s hpk]
      rw [show pl + -1 = pl - 1 by omega]
      exact Rg.weak (ht o mem1 hg) (by simp [lput1, lput2, Value.category, fi0, fi1, fi2, fi3] <;> first | rfl | exact ⟨rfl, rfl⟩) (by simp [lput1, lput2, Value.category, fi0, fi1, fi2, fi3] <;> first | rfl | exact ⟨rfl, rfl⟩)
theorem sort_out {d n0 : Nat} (wS : 0 ≤ plS ∧ plS ≤ 12) (wP : WPL plS plBN plBD plLN plLD) : ∀ (n : Nat) (k : Int) (ord : Int → Int), k + n = 2 * plS → 0 ≤ k → Srt (ptN plBN plBD plLN plLD) (ptD plBN plBD plLN plLD) ord k → ∃ ord1, Srt (ptN plBN plBD plLN plLD) (ptD plBN plBD plLN plLD) ord1 (2 * plS) ∧ Rg false (d + 2) m_Judge_sortPoints n0 2 [(2, .int (iI k)), (0, .ref 33), (1, .ref 19)] [] (MC s0 s1 handN handD gT gF alE alS alM fiF fiN fiD epN epD goH goN goD plS plP plM plA plBN plBD plLN plLD plR veW veF veP vsF vsN vsD juM juP (mix k (ptN plBN plBD plLN plLD) juTN) (mix k (ptD plBN plBD plLN plLD) juTD) ord scN scD noF noN noD neF neN neD arP arB arM arU arF arR arL arT arA arS leN leD grN grD arH arLU arGU shN shD stF stN stD rest) (.inl none) (MC s0 s1 handN handD gT gF alE alS alM fiF fiN fiD epN epD goH goN goD plS plP plM plA plBN plBD plLN plLD plR veW veF veP vsF vsN vsD juM juP (mix (2 * plS) (ptN plBN plBD plLN plLD) juTN) (mix (2 * plS) (ptD plBN plBD plLN plLD) juTD) ord1 scN scD noF noN noD neF neN neD arP arB arM arU arF arR arL arT arA arS leN leD grN grD arH arLU arGU shN shD stF stN stD rest) := by
  intro n
  induction n with
  | zero =>
    intro k ord hk hk2 hs
    have ek : k = 2 * plS := by omega
    subst ek
    refine ⟨ord, hs, ?_⟩
    refine Rg.step 3 F_Judge_sortPoints_2 rfl (fun _ => rfl) ?_
    refine Rg.step 4 F_Judge_sortPoints_3 rfl (fun _ => rfl) ?_
    refine Rg.step 5 F_Judge_sortPoints_4 rfl (fun _ => rfl) ?_
    refine Rg.getf 8 F_Judge_sortPoints_5 rfl rF_12_54 gC_19 rfl ?_
    refine Rg.mulI 9 F_Judge_sortPoints_8 rfl ?_
    refine Rg.icgeI 112 12 F_Judge_sortPoints_9 rfl rfl (by omega) (by omega) (fun _ => ?_) (fun h9 => by omega)
    exact Rg.retV F_Judge_sortPoints_112 rfl rfl
  | succ n ih =>
    intro k ord hk hk2 hs
    obtain ⟨⟨w1, w2, w3, w4, w5, w6, w7, w8⟩, -, -⟩ := wP (k / 2) (by omega) (by omega)
    have hQ : ∀ p, 0 ≤ p → p ≤ k → 0 ≤ mix (k + 1) (ptN plBN plBD plLN plLD) juTN p ∧ mix (k + 1) (ptN plBN plBD plLN plLD) juTN p ≤ 100000000000 ∧ 0 < mix (k + 1) (ptD plBN plBD plLN plLD) juTD p ∧ mix (k + 1) (ptD plBN plBD plLN plLD) juTD p ≤ 1000000 := fun p z1 z2 => by
      rw [mix_lt _ _ (by omega), mix_lt _ _ (by omega)]
      exact WPL_pt wP z1 (by omega)
    have lc : ∀ p q, p ≤ k → q ≤ k → (leP (mix (k + 1) (ptN plBN plBD plLN plLD) juTN) (mix (k + 1) (ptD plBN plBD plLN plLD) juTD) p q ↔ leP (ptN plBN plBD plLN plLD) (ptD plBN plBD plLN plLD) p q) := fun p q z1 z2 => leP_c (mix_lt _ _ (by omega)) (mix_lt _ _ (by omega)) (mix_lt _ _ (by omega)) (mix_lt _ _ (by omega))
    obtain ⟨pl1, a1, a2, a3, a4, hin⟩ := sort_in (d := d) (n0 := n0) (s0 := s0) (s1 := s1) (rest := rest) (handN := handN) (handD := handD) (gT := gT) (gF := gF) (alE := alE) (alS := alS) (alM := alM) (fiF := fiF) (fiN := fiN) (fiD := fiD) (epN := epN) (epD := epD) (goH := goH) (goN := goN) (goD := goD) (plS := plS) (plP := plP) (plM := plM) (plA := plA) (plBN := plBN) (plBD := plBD) (plLN := plLN) (plLD := plLD) (plR := plR) (veW := veW) (veF := veF) (veP := veP) (vsF := vsF) (vsN := vsN) (vsD := vsD) (juM := juM) (juP := juP) (juTN := (mix (k + 1) (ptN plBN plBD plLN plLD) juTN)) (juTD := (mix (k + 1) (ptD plBN plBD plLN plLD) juTD)) (scN := scN) (scD := scD) (noF := noF) (noN := noN) (noD := noD) (neF := neF) (neN := neN) (neD := neD) (arP := arP) (arB := arB) (arM := arM) (arU := arU) (arF := arF) (arR := arR) (arL := arL) (arT := arT) (arA := arA) (arS := arS) (leN := leN) (leD := leD) (grN := grN) (grD := grD) (arH := arH) (arLU := arLU) (arGU := arGU) (shN := shN) (shD := shD) (stF := stF) (stN := stN) (stD := stD) (k := k) (by omega) hQ (ord := ord) hs.1 k.toNat k (by omega) (by omega) (fun i z1 z2 => by omega)
    have hs1 : Srt (ptN plBN plBD plLN plLD) (ptD plBN plBD plLN plLD) (up1 (shF ord pl1 k) pl1 k) (k + 1) := hs.ins (fun p z1 z2 => (WPL_pt wP z1 (by omega)).2.2.1) hk2 a1 a2 (fun z => (lc _ _ (by have := hs.1 (pl1 - 1) (by omega) (by omega); omega) (by omega)).mp (a3 z)) (fun i z1 z2 z3 => a4 i z1 z2 ((lc _ _ (by have := hs.1 i (by omega) z2; omega) (by omega)).mpr z3))
    obtain ⟨ord1, i1, ht⟩ := ih (k + 1) (up1 (shF ord pl1 k) pl1 k) (by omega) (by omega) hs1
    refine ⟨ord1, i1, ?_⟩
    by_cases he : k % 2 = 0
    · have e1 : (up1 (mix k (ptN plBN plBD plLN plLD) juTN) k (plBN (k / 2))) = mix (k + 1) (ptN plBN plBD plLN plLD) juTN := by rw [show plBN (k / 2) = (ptN plBN plBD plLN plLD) k by unfold ptN; rw [if_pos he]]; exact mix_up _ _ _
      have e2 : (up1 (mix k (ptD plBN plBD plLN plLD) juTD) k (plBD (k / 2))) = mix (k + 1) (ptD plBN plBD plLN plLD) juTD := by rw [show plBD (k / 2) = (ptD plBN plBD plLN plLD) k by unfold ptD; rw [if_pos he]]; exact mix_up _ _ _
      refine Rg.step 3 F_Judge_sortPoints_2 rfl (fun _ => rfl) ?_
      refine Rg.step 4 F_Judge_sortPoints_3 rfl (fun _ => rfl) ?_
      refine Rg.step 5 F_Judge_sortPoints_4 rfl (fun _ => rfl) ?_
      refine Rg.getf 8 F_Judge_sortPoints_5 rfl rF_12_54 gC_19 rfl ?_
      refine Rg.mulI 9 F_Judge_sortPoints_8 rfl ?_
      refine Rg.icgeI 112 12 F_Judge_sortPoints_9 rfl rfl (by omega) (by omega) (fun h9 => by omega) (fun _ => ?_)
      refine Rg.step 13 F_Judge_sortPoints_12 rfl (fun _ => rfl) ?_
      refine Rg.getf 16 F_Judge_sortPoints_13 rfl rF_12_14 gC_33 rfl ?_
      refine Rg.step 17 F_Judge_sortPoints_16 rfl (fun _ => rfl) ?_
      refine Rg.step 18 F_Judge_sortPoints_17 rfl (fun _ => rfl) ?_
      refine Rg.getf 21 F_Judge_sortPoints_18 rfl rF_12_74 gC_19 rfl ?_
      refine Rg.step 22 F_Judge_sortPoints_21 rfl (fun _ => rfl) ?_
      refine Rg.step 23 F_Judge_sortPoints_22 rfl (fun _ => rfl) ?_
      refine Rg.divIp 24 F_Judge_sortPoints_23 rfl (by omega) (by omega) ?_
      refine Rg.call 27 F_Judge_sortPoints_24 rfl (one_V rM_12_77 (by decide) (by simp) rfl rfl gC_34 rfl) (Nat.le_of_ble_eq_true rfl) (Cg.toM sF_juT (c_FrI_copy _ gF_juT gF_plB (by decide) (by omega) (by omega))) ?_
      rw [e1, e2]
      refine Rg.step 28 F_Judge_sortPoints_27 rfl (fun _ => rfl) ?_
      refine Rg.call 31 F_Judge_sortPoints_28 rfl (one_S (by decide +kernel) rM_12_81 (by decide) (by simp) rfl rfl) (Nat.le_of_ble_eq_true rfl) (Cg.any (c_PJ_isEnd (by omega))) ?_
      refine Rg.ifeqP 50 34 F_Judge_sortPoints_31 rfl rfl (fun _ => ?_) (fun h31 => absurd he h31)
      refine Rg.step 51 F_Judge_sortPoints_50 rfl (fun _ => rfl) ?_
      refine Rg.step 52 F_Judge_sortPoints_51 rfl (fun _ => rfl) ?_
      refine Rg.frM (show _ = (MC s0 s1 handN handD gT gF alE alS alM fiF fiN fiD epN epD goH goN goD plS plP plM plA plBN plBD plLN plLD plR veW veF veP vsF vsN vsD juM juP (mix (k + 1) (ptN plBN plBD plLN plLD) juTN) (mix (k + 1) (ptD plBN plBD plLN plLD) juTD) (shF ord k k) scN scD noF noN noD neF neN neD arP arB arM arU arF arR arL arT arA arS leN leD grN grD arH arLU arGU shN shD stF stN stD rest) by rw [shF_0]) ?_
      refine Rg.weak (hin _ _ ?_) (by simp [lput1, lput2, Value.category, fi0, fi1, fi2, fi3] <;> first | rfl | exact ⟨rfl, rfl⟩) (by simp [lput1, lput2, Value.category, fi0, fi1, fi2, fi3] <;> first | rfl | exact ⟨rfl, rfl⟩)
      refine Rg.step 100 F_Judge_sortPoints_99 rfl (fun _ => rfl) ?_
      refine Rg.getf 103 F_Judge_sortPoints_100 rfl rF_12_20 gC_33 rfl ?_
      refine Rg.step 104 F_Judge_sortPoints_103 rfl (fun _ => rfl) ?_
      refine Rg.step 105 F_Judge_sortPoints_104 rfl (fun _ => rfl) ?_
      refine Rg.ist 106 F_Judge_sortPoints_105 rfl gC_37 (by decide) sC_juO (by omega) (by decide) ?_
      refine Rg.inc 109 F_Judge_sortPoints_106 rfl rfl (by decide) ?_
      refine Rg.step 2 F_Judge_sortPoints_109 rfl (fun _ => rfl) ?_
      exact Rg.weak ht (by simp [lput1, lput2, Value.category, fi0, fi1, fi2, fi3] <;> first | rfl | exact ⟨rfl, rfl⟩) (by simp [lput1, lput2, Value.category, fi0, fi1, fi2, fi3] <;> first | rfl | exact ⟨rfl, rfl⟩)
    · have m1 := mul_bd (a := plBN (k / 2)) (b := plLD (k / 2)) (A := 100000000000) (B := 1000000) (by omega) (by omega)
      have m2 := mul_bd (a := plLN (k / 2)) (b := plBD (k / 2)) (A := 100000000000) (B := 1000000) (by omega) (by omega)
      have m3 := mul_ps (a := plBD (k / 2)) (b := plLD (k / 2)) (A := 1000000) (B := 1000000) (by omega) (by omega)
      have r1 : rawN 1 (plBN (k / 2)) (plBD (k / 2)) (plLN (k / 2)) (plLD (k / 2)) = plBN (k / 2) * plLD (k / 2) + plLN (k / 2) * plBD (k / 2) := by unfold rawN; simp
      have r2 : rawD 1 (plBD (k / 2)) (plLD (k / 2)) = plBD (k / 2) * plLD (k / 2) := by unfold rawD; simp
      have r3 : calN 1 (plBN (k / 2)) (plBD (k / 2)) (plLN (k / 2)) (plLD (k / 2)) = (ptN plBN plBD plLN plLD) k := by unfold calN ptN; rw [r1, r2, if_neg he]; simp
      have r4 : calD 1 (plBN (k / 2)) (plBD (k / 2)) (plLN (k / 2)) (plLD (k / 2)) = (ptD plBN plBD plLN plLD) k := by unfold calD ptD; rw [r1, r2, if_neg he]; simp
      have hal := Cg.toM sF_juT (c_Fr_alter (d := d) (way := 1) (i := k) (j := k / 2) (gF_juT (s0 := s0) (s1 := s1) (rest := rest) (handN := handN) (handD := handD) (gT := gT) (gF := gF) (alE := alE) (alS := alS) (alM := alM) (fiF := fiF) (fiN := fiN) (fiD := fiD) (epN := epN) (epD := epD) (goH := goH) (goN := goN) (goD := goD) (plS := plS) (plP := plP) (plM := plM) (plA := plA) (plBN := plBN) (plBD := plBD) (plLN := plLN) (plLD := plLD) (plR := plR) (veW := veW) (veF := veF) (veP := veP) (vsF := vsF) (vsN := vsN) (vsD := vsD) (juM := juM) (juP := juP) (juTN := (up1 (mix k (ptN plBN plBD plLN plLD) juTN) k (plBN (k / 2)))) (juTD := (up1 (mix k (ptD plBN plBD plLN plLD) juTD) k (plBD (k / 2)))) (juO := ord) (scN := scN) (scD := scD) (noF := noF) (noN := noN) (noD := noD) (neF := neF) (neN := neN) (neD := neD) (arP := arP) (arB := arB) (arM := arM) (arU := arU) (arF := arF) (arR := arR) (arL := arL) (arT := arT) (arA := arA) (arS := arS) (leN := leN) (leD := leD) (grN := grN) (grD := grD) (arH := arH) (arLU := arLU) (arGU := arGU) (shN := shN) (shD := shD) (stF := stF) (stN := stN) (stD := stD)) gF_plL (by decide) (by omega) (by omega) (by decide) (by omega) (fun _ => by rw [up1_eq, up1_eq, r1, r2]; omega))
      rw [up1_eq, up1_eq, r3, r4, up1_up1, up1_up1, mix_up, mix_up] at hal
      refine Rg.step 3 F_Judge_sortPoints_2 rfl (fun _ => rfl) ?_
      refine Rg.step 4 F_Judge_sortPoints_3 rfl (fun _ => rfl) ?_
      refine Rg.step 5 F_Judge_sortPoints_4 rfl (fun _ => rfl) ?_
      refine Rg.getf 8 F_Judge_sortPoints_5 rfl rF_12_54 gC_19 rfl ?_
      refine Rg.mulI 9 F_Judge_sortPoints_8 rfl ?_
      refine Rg.icgeI 112 12 F_Judge_sortPoints_9 rfl rfl (by omega) (by omega) (fun h9 => by omega) (fun _ => ?_)
      refine Rg.step 13 F_Judge_sortPoints_12 rfl (fun _ => rfl) ?_
      refine Rg.getf 16 F_Judge_sortPoints_13 rfl rF_12_14 gC_33 rfl ?_
      refine Rg.step 17 F_Judge_sortPoints_16 rfl (fun _ => rfl) ?_
      refine Rg.step 18 F_Judge_sortPoints_17 rfl (fun _ => rfl) ?_
      refine Rg.getf 21 F_Judge_sortPoints_18 rfl rF_12_74 gC_19 rfl ?_
      refine Rg.step 22 F_Judge_sortPoints_21 rfl (fun _ => rfl) ?_
      refine Rg.step 23 F_Judge_sortPoints_22 rfl (fun _ => rfl) ?_
      refine Rg.divIp 24 F_Judge_sortPoints_23 rfl (by omega) (by omega) ?_
      refine Rg.call 27 F_Judge_sortPoints_24 rfl (one_V rM_12_77 (by decide) (by simp) rfl rfl gC_34 rfl) (Nat.le_of_ble_eq_true rfl) (Cg.toM sF_juT (c_FrI_copy _ gF_juT gF_plB (by decide) (by omega) (by omega))) ?_
      refine Rg.step 28 F_Judge_sortPoints_27 rfl (fun _ => rfl) ?_
      refine Rg.call 31 F_Judge_sortPoints_28 rfl (one_S (by decide +kernel) rM_12_81 (by decide) (by simp) rfl rfl) (Nat.le_of_ble_eq_true rfl) (Cg.any (c_PJ_isEnd (by omega))) ?_
      refine Rg.ifeqP 50 34 F_Judge_sortPoints_31 rfl rfl (fun h31 => absurd he h31) (fun _ => ?_)
      refine Rg.step 35 F_Judge_sortPoints_34 rfl (fun _ => rfl) ?_
      refine Rg.getf 38 F_Judge_sortPoints_35 rfl rF_12_14 gC_33 rfl ?_
      refine Rg.step 39 F_Judge_sortPoints_38 rfl (fun _ => rfl) ?_
      refine Rg.step 40 F_Judge_sortPoints_39 rfl (fun _ => rfl) ?_
      refine Rg.step 41 F_Judge_sortPoints_40 rfl (fun _ => rfl) ?_
      refine Rg.getf 44 F_Judge_sortPoints_41 rfl rF_12_85 gC_19 rfl ?_
      refine Rg.step 45 F_Judge_sortPoints_44 rfl (fun _ => rfl) ?_
      refine Rg.step 46 F_Judge_sortPoints_45 rfl (fun _ => rfl) ?_
      refine Rg.divIp 47 F_Judge_sortPoints_46 rfl (by omega) (by omega) ?_
      refine Rg.call 50 F_Judge_sortPoints_47 rfl (one_V rM_12_88 (by decide) (by simp) rfl rfl gC_34 rfl) (Nat.le_of_ble_eq_true rfl) hal ?_
      refine Rg.step 51 F_Judge_sortPoints_50 rfl (fun _ => rfl) ?_
      refine Rg.step 52 F_Judge_sortPoints_51 rfl (fun _ => rfl) ?_
      refine Rg.frM (show _ = (MC s0 s1 handN handD gT gF alE alS alM fiF fiN fiD epN epD goH goN goD plS plP plM plA plBN plBD plLN plLD plR veW veF veP vsF vsN vsD juM juP (mix (k + 1) (ptN plBN plBD plLN plLD) juTN) (mix (k + 1) (ptD plBN plBD plLN plLD) juTD) (shF ord k k) scN scD noF noN noD neF neN neD arP arB arM arU arF arR arL arT arA arS leN leD grN grD arH arLU arGU shN shD stF stN stD rest) by rw [shF_0]) ?_
      refine Rg.weak (hin _ _ ?_) (by simp [lput1, lput2, Value.category, fi0, fi1, fi2, fi3] <;> first | rfl | exact ⟨rfl, rfl⟩) (by simp [lput1, lput2, Value.category, fi0, fi1, fi2, fi3] <;> first | rfl | exact ⟨rfl, rfl⟩)
      refine Rg.step 100 F_Judge_sortPoints_99 rfl (fun _ => rfl) ?_
      refine Rg.getf 103 F_Judge_sortPoints_100 rfl rF_12_20 gC_33 rfl ?_
      refine Rg.step 104 F_Judge_sortPoints_103 rfl (fun _ => rfl) ?_
      refine Rg.step 105 F_Judge_sortPoints_104 rfl (fun _ => rfl) ?_
      refine Rg.ist 106 F_Judge_sortPoints_105 rfl gC_37 (by decide) sC_juO (by omega) (by decide) ?_
      refine Rg.inc 109 F_Judge_sortPoints_106 rfl rfl (by decide) ?_
      refine Rg.step 2 F_Judge_sortPoints_109 rfl (fun _ => rfl) ?_
      exact Rg.weak ht (by simp [lput1, lput2, Value.category, fi0, fi1, fi2, fi3] <;> first | rfl | exact ⟨rfl, rfl⟩) (by simp [lput1, lput2, Value.category, fi0, fi1, fi2, fi3] <;> first | rfl | exact ⟨rfl, rfl⟩)
theorem c_Ju_sort {d : Nat} (wS : 0 ≤ plS ∧ plS ≤ 12) (wP : WPL plS plBN plBD plLN plLD) : ∃ ord1, Srt (ptN plBN plBD plLN plLD) (ptD plBN plBD plLN plLD) ord1 (2 * plS) ∧ Cg false (d + 2) m_Judge_sortPoints [.ref 33, .ref 19] (MC s0 s1 handN handD gT gF alE alS alM fiF fiN fiD epN epD goH goN goD plS plP plM plA plBN plBD plLN plLD plR veW veF veP vsF vsN vsD juM juP juTN juTD juO scN scD noF noN noD neF neN neD arP arB arM arU arF arR arL arT arA arS leN leD grN grD arH arLU arGU shN shD stF stN stD rest) (.inl none) (MC s0 s1 handN handD gT gF alE alS alM fiF fiN fiD epN epD goH goN goD plS plP plM plA plBN plBD plLN plLD plR veW veF veP vsF vsN vsD juM juP (mix (2 * plS) (ptN plBN plBD plLN plLD) juTN) (mix (2 * plS) (ptD plBN plBD plLN plLD) juTD) ord1 scN scD noF noN noD neF neN neD arP arB arM arU arF arR arL arT arA arS leN leD grN grD arH arLU arGU shN shD stF stN stD rest) := by
  obtain ⟨ord1, i1, ht⟩ := sort_out (d := d) (n0 := (MC s0 s1 handN handD gT gF alE alS alM fiF fiN fiD epN epD goH goN goD plS plP plM plA plBN plBD plLN plLD plR veW veF veP vsF vsN vsD juM juP juTN juTD juO scN scD noF noN noD neF neN neD arP arB arM arU arF arR arL arT arA arS leN leD grN grD arH arLU arGU shN shD stF stN stD rest).length) (s0 := s0) (s1 := s1) (rest := rest) (handN := handN) (handD := handD) (gT := gT) (gF := gF) (alE := alE) (alS := alS) (alM := alM) (fiF := fiF) (fiN := fiN) (fiD := fiD) (epN := epN) (epD := epD) (goH := goH) (goN := goN) (goD := goD) (plS := plS) (plP := plP) (plM := plM) (plA := plA) (plBN := plBN) (plBD := plBD) (plLN := plLN) (plLD := plLD) (plR := plR) (veW := veW) (veF := veF) (veP := veP) (vsF := vsF) (vsN := vsN) (vsD := vsD) (juM := juM) (juP := juP) (juTN := juTN) (juTD := juTD) (scN := scN) (scD := scD) (noF := noF) (noN := noN) (noD := noD) (neF := neF) (neN := neN) (neD := neD) (arP := arP) (arB := arB) (arM := arM) (arU := arU) (arF := arF) (arR := arR) (arL := arL) (arT := arT) (arA := arA) (arS := arS) (leN := leN) (leD := leD) (grN := grN) (grD := grD) (arH := arH) (arLU := arLU) (arGU := arGU) (shN := shN) (shD := shD) (stF := stF) (stN := stN) (stD := stD) wS wP (2 * plS).toNat 0 juO (by omega) (by omega) ⟨fun i z1 z2 => by omega, fun i j z1 z2 z3 => by omega⟩
  refine ⟨ord1, i1, ?_⟩
  refine Cg.of (Nat.le_of_ble_eq_true rfl) ?_
  change Rg _ _ _ _ 0 [(0, .ref 33), (1, .ref 19)] [] _ _ _
  refine Rg.step 1 F_Judge_sortPoints_0 rfl (fun _ => rfl) ?_
  refine Rg.step 2 F_Judge_sortPoints_1 rfl (fun _ => rfl) ?_
  exact Rg.frM ((kC_juTN (mix0_L (ptN plBN plBD plLN plLD) juTN)).trans (kC_juTD (mix0_L (ptD plBN plBD plLN plLD) juTD))) (Rg.weak ht (by simp [lput1, lput2, Value.category, fi0, fi1, fi2, fi3] <;> first | rfl | exact ⟨rfl, rfl⟩) (by simp [lput1, lput2, Value.category, fi0, fi1, fi2, fi3] <;> first | rfl | exact ⟨rfl, rfl⟩))
end R68
