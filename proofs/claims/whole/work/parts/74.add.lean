/-! The class: what the arranger keeps of a row. -/
def LI (r : Int → Int) (I : Int → Int → Prop) (arL : Int → Int) (i : Int) : Prop := (arL i = -1 ∧ ∀ j, 0 ≤ j → j < i → ¬ I (r i) (r j)) ∨ (0 ≤ arL i ∧ arL i < i ∧ I (r i) (r (arL i)) ∧ ∀ j, arL i < j → j < i → ¬ I (r i) (r j))
def BdC (A r : Int → Int) (k : Int) (B : Int → NB) (arA arS leN leD grN grD : Int → Int) (arH : Int → Prop) (s : Int) : Prop := arA s = A s ∧ (0 ≤ arS s ∧ arS s < k ∧ r (arS s) = 2 * s) ∧ leN s = (B s).1 ∧ leD s = (B s).2.1 ∧ (arH s ↔ ¬ (B s).2.2.2 = 0) ∧ (¬ (B s).2.2.2 = 0 → grN s = (B s).2.2.1 ∧ grD s = (B s).2.2.2) ∧ bdB (B s)
def ArI (A r : Int → Int) (I : Int → Int → Prop) (k : Int) (σ : Int → NS) (B : Int → NB) (arB : Int) (arM : Int → Prop) (arR arL arA arS leN leD grN grD : Int → Int) (arH : Int → Prop) (stF : Int → Int → Prop) (stN stD : Int → Int → Int) : Prop :=
  (∀ i, 0 ≤ i → i < k → arR i = r i) ∧ (∀ i, 0 ≤ i → i ≤ k → stF i = (σ i).1 ∧ stN i = (σ i).2.1 ∧ stD i = (σ i).2.2) ∧ arB = (cntP (fun s => grp r 0 k (2 * s)) 12 : Nat) ∧ (∀ s, 0 ≤ s → s < 24 → (arM s ↔ grp r 0 k (2 * s) ∧ ¬ grp r 0 k (2 * s + 1))) ∧ (∀ s, 0 ≤ s → grp r 0 k (2 * s) → BdC A r k B arA arS leN leD grN grD arH s) ∧ (∀ i, 0 ≤ i → i < k → LI r I arL i)
/-- a row of points that may go on at k -/
def RowOK (r : Int → Int) (m k : Int) : Prop := (0 ≤ r k ∧ r k < 2 * m) ∧ ¬ grp r 0 k (r k) ∧ (¬ r k % 2 = 0 → grp r 0 k (r k - 1)) ∧ (∀ s, grp r 0 k (2 * s + 1) → grp r 0 k (2 * s))
theorem grp_up {r : Int → Int} {k : Int} (hk : 0 ≤ k) : up1 (grp r 0 k) (r k) True = grp r 0 (k + 1) := by
  funext p
  refine propext ?_
  by_cases hp : p = r k
  · rw [hp, up1_eq]
    exact ⟨fun _ => ⟨k, hk, by omega, rfl⟩, fun _ => trivial⟩
  · rw [up1_ne _ _ hp]
    constructor
    · rintro ⟨i, i1, i2, i3⟩
      exact ⟨i, i1, by omega, i3⟩
    · rintro ⟨i, i1, i2, i3⟩
      refine ⟨i, i1, ?_, i3⟩
      by_cases e : i = k
      · rw [e] at i3; exact absurd i3.symm hp
      · omega
theorem grp_1 {r : Int → Int} {k p : Int} (hk : 0 ≤ k) : grp r 0 (k + 1) p ↔ grp r 0 k p ∨ p = r k := by
  constructor
  · rintro ⟨i, i1, i2, i3⟩
    by_cases e : i = k
    · rw [e] at i3; exact Or.inr i3.symm
    · exact Or.inl ⟨i, i1, by omega, i3⟩
  · rintro (⟨i, i1, i2, i3⟩ | h)
    · exact ⟨i, i1, by omega, i3⟩
    · exact ⟨k, hk, by omega, h.symm⟩
theorem cntP_c {A B : Int → Prop} : ∀ (n : Nat), (∀ q : Int, 0 ≤ q → q < n → (A q ↔ B q)) → cntP A n = cntP B n := by
  intro n h
  exact Nat.le_antisymm (cntP_le n (fun q z1 z2 z => (h q z1 z2).mp z)) (cntP_le n (fun q z1 z2 z => (h q z1 z2).mpr z))
theorem cntP_add {A B : Int → Prop} {s : Int} (h0 : 0 ≤ s) (ha : ¬ A s) (hb : B s) : ∀ (n : Nat), s < n → (∀ q : Int, 0 ≤ q → q < n → ¬ q = s → (A q ↔ B q)) → cntP B n = cntP A n + 1 := by
  intro n
  induction n with
  | zero => intro h _; omega
  | succ n ih =>
    intro hs h
    unfold cntP
    by_cases e : s = n
    · subst e
      rw [if_pos hb, if_neg ha, cntP_c n (fun q z1 z2 => h q z1 (by omega) (by omega))]
    · have := ih (by omega) (fun q z1 z2 z3 => h q z1 (by omega) z3)
      rw [this]
      by_cases hA : A (n : Int)
      · rw [if_pos hA, if_pos ((h n (by omega) (by omega) (fun z => e z.symm)).mp hA)]
      · rw [if_neg hA, if_neg (fun z => hA ((h n (by omega) (by omega) (fun z => e z.symm)).mpr z))]
/-- the mask behind a point -/
theorem mask_step {r : Int → Int} {m k : Int} {arM : Int → Prop} (hk : 0 ≤ k) (hr : RowOK r m k) (h : ∀ s, 0 ≤ s → s < 24 → (arM s ↔ grp r 0 k (2 * s) ∧ ¬ grp r 0 k (2 * s + 1))) : ∀ s, 0 ≤ s → s < 24 → ((arM s ↔ ¬ s = r k / 2) ↔ grp r 0 (k + 1) (2 * s) ∧ ¬ grp r 0 (k + 1) (2 * s + 1)) := by
  intro s s0 s1
  obtain ⟨r1, r2, r3, r4⟩ := hr
  rw [grp_1 hk, grp_1 hk, h s s0 s1]
  by_cases e : s = r k / 2
  · by_cases ev : r k % 2 = 0
    · have e2 : r k = 2 * s := by omega
      rw [e2] at r2
      constructor
      · intro _
        exact ⟨Or.inr e2.symm, fun z => z.elim (fun y => r2 (r4 s y)) (fun y => by omega)⟩
      · intro _
        exact ⟨fun z => absurd z.1 r2, fun z => absurd e z⟩
    · have e2 : r k = 2 * s + 1 := by omega
      have r5 := r3 ev
      rw [show r k - 1 = 2 * s by omega] at r5
      rw [e2] at r2
      constructor
      · intro z
        exact absurd e (z.mp ⟨r5, r2⟩)
      · rintro ⟨_, z2⟩
        exact absurd (Or.inr e2.symm) z2
  · constructor
    · intro z
      have y := z.mpr e
      exact ⟨Or.inl y.1, fun w => w.elim y.2 (fun v => by omega)⟩
    · rintro ⟨z1, z2⟩
      refine ⟨fun _ => e, fun _ => ⟨z1.resolve_right (fun v => by omega), fun w => z2 (Or.inl w)⟩⟩
section AI
variable {A r : Int → Int} {I : Int → Int → Prop} {m k : Int} {σ : Int → NS} {B : Int → NB} {arB : Int} {arM : Int → Prop} {arR arL arA arS leN leD grN grD : Int → Int} {arH : Int → Prop} {stF : Int → Int → Prop} {stN stD : Int → Int → Int}
/-- what is written behind the row does no harm -/
theorem ArI.behind (h : ArI A r I k σ B arB arM arR arL arA arS leN leD grN grD arH stF stN stD) {F : Int → Prop} {N D : Int → Int} {s a : Int} (ha : grp r 0 k (2 * s) → a = A s) : ArI A r I k σ B arB arM arR arL (up1 arA s a) arS leN leD grN grD arH (up1 stF (k + 1) F) (up1 stN (k + 1) N) (up1 stD (k + 1) D) := by
  obtain ⟨h1, h2, h3, h4, h5, h6⟩ := h
  refine ⟨h1, fun i z1 z2 => ?_, h3, h4, fun q z1 z2 => ?_, h6⟩
  · rw [up1_ne _ _ (by omega), up1_ne _ _ (by omega), up1_ne _ _ (by omega)]
    exact h2 i z1 z2
  · obtain ⟨b1, b2⟩ := h5 q z1 z2
    refine ⟨?_, b2⟩
    by_cases e : q = s
    · rw [e, up1_eq]; rw [e] at z2; exact ha z2
    · rw [up1_ne _ _ e]; exact b1
theorem ArI.behind0 (h : ArI A r I k σ B arB arM arR arL arA arS leN leD grN grD arH stF stN stD) {F : Int → Prop} {N D : Int → Int} : ArI A r I k σ B arB arM arR arL arA arS leN leD grN grD arH (up1 stF (k + 1) F) (up1 stN (k + 1) N) (up1 stD (k + 1) D) := by
  obtain ⟨h1, h2, h3, h4, h5, h6⟩ := h
  refine ⟨h1, fun i z1 z2 => ?_, h3, h4, h5, h6⟩
  rw [up1_ne _ _ (by omega), up1_ne _ _ (by omega), up1_ne _ _ (by omega)]
  exact h2 i z1 z2
theorem st_up {S2 : NS} {i : Int} (h : ∀ i, 0 ≤ i → i ≤ k → stF i = (σ i).1 ∧ stN i = (σ i).2.1 ∧ stD i = (σ i).2.2) (z1 : 0 ≤ i) (z2 : i ≤ k + 1) : up1 stF (k + 1) S2.1 i = (up1 σ (k + 1) S2 i).1 ∧ up1 stN (k + 1) S2.2.1 i = (up1 σ (k + 1) S2 i).2.1 ∧ up1 stD (k + 1) S2.2.2 i = (up1 σ (k + 1) S2 i).2.2 := by
  by_cases e : i = k + 1
  · rw [e, up1_eq, up1_eq, up1_eq, up1_eq]
    exact ⟨rfl, rfl, rfl⟩
  · rw [up1_ne _ _ e, up1_ne _ _ e, up1_ne _ _ e, up1_ne _ _ e]
    exact h i z1 (by omega)
/-- a point that ends a step -/
theorem ArI.fin (h : ArI A r I k σ B arB arM arR arL arA arS leN leD grN grD arH stF stN stD) (hk : 0 ≤ k) (hr : RowOK r m k) (ho : ¬ r k % 2 = 0) {S2 : NS} {l : Int} (hl : LI r I (up1 arL k l) k) : ArI A r I (k + 1) (up1 σ (k + 1) S2) B arB (fun s => arM s ↔ ¬ s = r k / 2) (up1 arR k (r k)) (up1 arL k l) (up1 arA (r k / 2) (A (r k / 2))) arS leN leD grN grD arH (up1 stF (k + 1) S2.1) (up1 stN (k + 1) S2.2.1) (up1 stD (k + 1) S2.2.2) := by
  obtain ⟨h1, h2, h3, h4, h5, h6⟩ := h
  have hg : ∀ s, grp r 0 (k + 1) (2 * s) ↔ grp r 0 k (2 * s) := fun s => by
    rw [grp_1 hk]
    exact ⟨fun z => z.resolve_right (fun y => by omega), Or.inl⟩
  refine ⟨fun i z1 z2 => ?_, fun i z1 z2 => st_up h2 z1 z2, ?_, mask_step hk hr h4, fun s z1 z2 => ?_, fun i z1 z2 => ?_⟩
  · by_cases e : i = k
    · rw [e, up1_eq]
    · rw [up1_ne _ _ e]; exact h1 i z1 (by omega)
  · rw [h3]
    exact congrArg (fun n : Nat => (n : Int)) (cntP_c 12 (fun s _ _ => (hg s).symm))
  · obtain ⟨b1, b2, b3⟩ := h5 s z1 ((hg s).mp z2)
    refine ⟨?_, by omega, b3⟩
    by_cases e : s = r k / 2
    · rw [e, up1_eq]
    · rw [up1_ne _ _ e]; exact b1
  · by_cases e : i = k
    · rw [e]; exact hl
    · have := h6 i z1 (by omega)
      unfold LI at this ⊢
      rw [up1_ne _ _ e]
      exact this
/-- a point that begins a step -/
theorem ArI.beg (h : ArI A r I k σ B arB arM arR arL arA arS leN leD grN grD arH stF stN stD) (hk : 0 ≤ k) (hr : RowOK r m k) (hm : m ≤ 12) (he : r k % 2 = 0) {S2 : NS} {l gn gd : Int} {b : NB} (hl : LI r I (up1 arL k l) k) (hb : bdB b) (hg : ¬ b.2.2.2 = 0 → gn = b.2.2.1 ∧ gd = b.2.2.2) : ArI A r I (k + 1) (up1 σ (k + 1) S2) (up1 B (r k / 2) b) (arB + 1) (fun s => arM s ↔ ¬ s = r k / 2) (up1 arR k (r k)) (up1 arL k l) (up1 arA (r k / 2) (A (r k / 2))) (up1 arS (r k / 2) k) (up1 leN (r k / 2) b.1) (up1 leD (r k / 2) b.2.1) (up1 grN (r k / 2) gn) (up1 grD (r k / 2) gd) (up1 arH (r k / 2) (¬ b.2.2.2 = 0)) (up1 stF (k + 1) S2.1) (up1 stN (k + 1) S2.2.1) (up1 stD (k + 1) S2.2.2) := by
  have hr0 := hr
  obtain ⟨h1, h2, h3, h4, h5, h6⟩ := h
  obtain ⟨r1, r2, r3, r4⟩ := hr0
  have e2 : 2 * (r k / 2) = r k := by omega
  refine ⟨fun i z1 z2 => ?_, fun i z1 z2 => st_up h2 z1 z2, ?_, mask_step hk hr h4, fun s z1 z2 => ?_, fun i z1 z2 => ?_⟩
  · by_cases e : i = k
    · rw [e, up1_eq]
    · rw [up1_ne _ _ e]; exact h1 i z1 (by omega)
  · rw [h3, cntP_add (A := fun s => grp r 0 k (2 * s)) (B := fun s => grp r 0 (k + 1) (2 * s)) (s := r k / 2) (by omega) (by rw [e2]; exact r2) ((grp_1 hk).mpr (Or.inr e2)) 12 (by omega) (fun q _ _ z => ⟨fun y => (grp_1 hk).mpr (Or.inl y), fun y => ((grp_1 hk).mp y).resolve_right (fun v => by omega)⟩)]
    omega
  · by_cases e : s = r k / 2
    · rw [e]
      unfold BdC
      rw [up1_eq, up1_eq, up1_eq, up1_eq, up1_eq, up1_eq, up1_eq, up1_eq]
      exact ⟨rfl, ⟨hk, by omega, e2.symm⟩, rfl, rfl, Iff.rfl, hg, hb⟩
    · have z3 : grp r 0 k (2 * s) := ((grp_1 hk).mp z2).resolve_right (fun v => by omega)
      obtain ⟨b1, b2, b3⟩ := h5 s z1 z3
      unfold BdC
      rw [up1_ne _ _ e, up1_ne _ _ e, up1_ne _ _ e, up1_ne _ _ e, up1_ne _ _ e, up1_ne _ _ e, up1_ne _ _ e, up1_ne _ _ e]
      exact ⟨b1, by omega, b3⟩
  · by_cases e : i = k
    · rw [e]; exact hl
    · have := h6 i z1 (by omega)
      unfold LI at this ⊢
      rw [up1_ne _ _ e]
      exact this
/-- the last point is taken back -/
theorem ArI.back {σ1 : Int → NS} {B1 : Int → NB} {arB1 : Int} (h : ArI A r I (k + 1) σ1 B1 arB arM arR arL arA arS leN leD grN grD arH stF stN stD) (hk : 0 ≤ k) (hr : RowOK r m k) (hm : m ≤ 12) (hσ : ∀ i, 0 ≤ i → i ≤ k → σ1 i = σ i) (hB : ∀ s, 0 ≤ s → grp r 0 k (2 * s) → B1 s = B s) (hS : ∀ s, 0 ≤ s → grp r 0 k (2 * s) → arS s < k) (hb : arB1 = if r k % 2 = 0 then arB - 1 else arB) : ArI A r I k σ B arB1 (fun s => arM s ↔ ¬ s = r k / 2) arR arL arA arS leN leD grN grD arH stF stN stD := by
  have hr0 := hr
  obtain ⟨h1, h2, h3, h4, h5, h6⟩ := h
  obtain ⟨r1, r2, r3, r4⟩ := hr0
  refine ⟨fun i z1 z2 => h1 i z1 (by omega), fun i z1 z2 => ?_, ?_, fun s z1 z2 => ?_, fun s z1 z2 => ?_, fun i z1 z2 => h6 i z1 (by omega)⟩
  · rw [← hσ i z1 z2]; exact h2 i z1 (by omega)
  · by_cases he : r k % 2 = 0
    · have e2 : 2 * (r k / 2) = r k := by omega
      rw [hb, if_pos he, h3, cntP_add (A := fun s => grp r 0 k (2 * s)) (B := fun s => grp r 0 (k + 1) (2 * s)) (s := r k / 2) (by omega) (by rw [e2]; exact r2) ((grp_1 hk).mpr (Or.inr e2)) 12 (by omega) (fun q _ _ z => ⟨fun y => (grp_1 hk).mpr (Or.inl y), fun y => ((grp_1 hk).mp y).resolve_right (fun v => by omega)⟩)]
      omega
    · rw [hb, if_neg he, h3]
      refine congrArg (fun n : Nat => (n : Int)) (cntP_c 12 (fun s _ _ => ?_))
      rw [grp_1 hk]
      exact ⟨fun z => z.resolve_right (fun y => by omega), Or.inl⟩
  · have e1 := h4 s z1 z2
    rw [grp_1 hk, grp_1 hk] at e1
    dsimp only
    rw [e1]
    by_cases e : s = r k / 2
    · by_cases ev : r k % 2 = 0
      · have e2 : r k = 2 * s := by omega
        rw [e2] at r2
        constructor
        · intro z
          exact absurd e (z.mp ⟨Or.inr e2.symm, fun w => w.elim (fun y => r2 (r4 s y)) (fun y => by omega)⟩)
        · rintro ⟨z3, _⟩
          exact absurd z3 r2
      · have e2 : r k = 2 * s + 1 := by omega
        have r5 := r3 ev
        rw [show r k - 1 = 2 * s by omega] at r5
        rw [e2] at r2
        constructor
        · intro _
          exact ⟨r5, r2⟩
        · intro _
          exact ⟨fun w => absurd (Or.inr e2.symm) w.2, fun w => absurd e w⟩
    · constructor
      · intro z
        have y := z.mpr e
        exact ⟨y.1.resolve_right (fun v => by omega), fun w => y.2 (Or.inl w)⟩
      · rintro ⟨y1, y2⟩
        exact ⟨fun _ => e, fun _ => ⟨Or.inl y1, fun w => w.elim y2 (fun v => by omega)⟩⟩
  · obtain ⟨b1, b2, b3, b4, b5, b6, b7⟩ := h5 s z1 ((grp_1 hk).mpr (Or.inl z2))
    rw [hB s z1 z2] at b3 b4 b5 b6 b7
    have := hS s z1 z2
    exact ⟨b1, ⟨b2.1, this, b2.2.2⟩, b3, b4, b5, b6, b7⟩
end AI

section R74
variable {s0 s1 : AC} {rest : AM} {ab : Int → Nat}
variable {alS alM plS plP veW veF veP juP arP arB arU arF : Int}
variable {handN handD fiN fiD epN epD goH goN goD plA plBN plBD plLN plLD plR vsN vsD juTN juTD juO scN scD noN noD neN neD arR arL arT arA arS leN leD grN grD arLU arGU shN shD : Int → Int}
variable {stN stD : Int → Int → Int}
variable {stF : Int → Int → Prop}
variable {gT gF fiF plM vsF juM noF neF arM arH : Int → Prop}
variable {alE : Nat}
variable {code amountN amountD momentN momentD epsilonN epsilonD actions steps rows tried triedRows unit point judged fault faultPoint outN outD : Int}
variable {firstN firstD wishes wants wantN wantD needs needTime needOf needHow needN needD changes changeTime changeOf changeHow changeN changeD lastOf lastN lastD stepAction startN startD lengthN lengthD row triedAction triedRow times numN numD oldN oldD toldN toldD pointN pointD leastN leastD greatestN greatestD events : Int → Int}
variable {firstFacts facts oldFacts toldFacts gone now : Int → Prop}
variable {A r : Int → Int} {σ : Int → NS} {B : Int → NB} {m k : Int}
theorem c_Ar_add {d : Nat} (hw : WT epsilonN epsilonD wishes wants wantN wantD actions needs needTime needOf needHow needN needD changes changeTime changeOf changeHow changeN changeD lastOf lastN lastD firstN firstD) (hO : ActsOK needs needTime needOf needHow needN needD changes changeTime changeOf changeHow changeN changeD lastOf lastN lastD rest alE actions ab) (hE : epN 0 = epsilonN ∧ epD 0 = epsilonD) (he : Int.gcd epsilonN epsilonD = 1) (hm : 0 ≤ m ∧ m ≤ 12) (hk : 0 ≤ k ∧ k < 24) (hR : RowOK r m k) (hrow : ∀ i, 0 ≤ i → i < k → 0 ≤ r i ∧ r i < 2 * m) (hA : ∀ s, 0 ≤ s → s < m → 0 ≤ A s ∧ A s < actions) (wN : WN (stN k) (stD k)) (hai : ArI A r (intP A needs needTime needHow needOf lastOf changes changeTime changeHow changeOf) k σ B arB arM arR arL arA arS leN leD grN grD arH stF stN stD) : ∃ (why arP1 arF1 arB1 : Int) (arM1 : Int → Prop) (arR1 arL1 arA1 arS1 leN1 leD1 grN1 grD1 : Int → Int) (arH1 : Int → Prop) (stF1 : Int → Int → Prop) (stN1 stD1 : Int → Int → Int), ((why = 2 ∧ ¬ fit needs needTime needOf needHow needN needD (stF k) (stN k) (stD k) (A (r k / 2)) (tmo (r k)) ∧ arF1 = r k ∧ arP1 = k ∧ ArI A r (intP A needs needTime needHow needOf lastOf changes changeTime changeHow changeOf) k σ B arB1 arM1 arR1 arL1 arA1 arS1 leN1 leD1 grN1 grD1 arH1 stF1 stN1 stD1) ∨ (fit needs needTime needOf needHow needN needD (stF k) (stN k) (stD k) (A (r k / 2)) (tmo (r k)) ∧ ((why = 4 ∧ chAll changeTime changeOf changeHow changeN changeD (tmo (r k)) (changes (A (r k / 2))).toNat (6 * A (r k / 2)) (stF k, stN k, stD k) = none ∧ arF1 = r k ∧ arP1 = k ∧ ArI A r (intP A needs needTime needHow needOf lastOf changes changeTime changeHow changeOf) k σ B arB1 arM1 arR1 arL1 arA1 arS1 leN1 leD1 grN1 grD1 arH1 stF1 stN1 stD1) ∨ (∃ F2 N2 D2, chAll changeTime changeOf changeHow changeN changeD (tmo (r k)) (changes (A (r k / 2))).toNat (6 * A (r k / 2)) (stF k, stN k, stD k) = some (F2, N2, D2) ∧ WN N2 D2 ∧ ((why = 5 ∧ ∃ q, arF1 = 2 * q ∧ 0 ≤ q ∧ q < 12 ∧ (badS (fun S s t => fit needs needTime needOf needHow needN needD S.1 S.2.1 S.2.2 (A s) t) (grp r 0 (k + 1)) (F2, N2, D2) q) ∧ (∀ j, 0 ≤ j → j < q → ¬ (badS (fun S s t => fit needs needTime needOf needHow needN needD S.1 S.2.1 S.2.2 (A s) t) (grp r 0 (k + 1)) (F2, N2, D2) j)) ∧ arP1 = k ∧ ArI A r (intP A needs needTime needHow needOf lastOf changes changeTime changeHow changeOf) k σ B arB1 arM1 arR1 arL1 arA1 arS1 leN1 leD1 grN1 grD1 arH1 stF1 stN1 stD1 ∧ stF1 (k + 1) = F2 ∧ stN1 (k + 1) = N2 ∧ stD1 (k + 1) = D2) ∨ (why = 0 ∧ (∀ q, 0 ≤ q → q < 12 → ¬ (badS (fun S s t => fit needs needTime needOf needHow needN needD S.1 S.2.1 S.2.2 (A s) t) (grp r 0 (k + 1)) (F2, N2, D2) q)) ∧ arP1 = k + 1 ∧ ArI A r (intP A needs needTime needHow needOf lastOf changes changeTime changeHow changeOf) (k + 1) (up1 σ (k + 1) (F2, N2, D2)) (if r k % 2 = 0 then up1 B (r k / 2) (lbN lastOf lastN lastD epsilonN epsilonD (stN k) (stD k) (A (r k / 2)), lbD lastOf lastN lastD epsilonN epsilonD (stN k) (stD k) (A (r k / 2)), gbN lastOf lastN lastD (stN k) (stD k) (A (r k / 2)), gbD lastOf lastN lastD (stN k) (stD k) (A (r k / 2))) else B) arB1 arM1 arR1 arL1 arA1 arS1 leN1 leD1 grN1 grD1 arH1 stF1 stN1 stD1)))))) ∧ Cg false (d + 5) m_Arranger_addPoint [.ref 49, .ref 6, .int (iI (r k)), .int (iI (A (r k / 2)))] (MC s0 s1 handN handD gT gF alE actions alM fiF fiN fiD epN epD goH goN goD plS plP plM plA plBN plBD plLN plLD plR veW veF veP vsF vsN vsD juM juP juTN juTD juO scN scD noF noN noD neF neN neD k arB arM arU arF arR arL arT arA arS leN leD grN grD arH arLU arGU shN shD stF stN stD rest) (.inl (some (.int (iI why)))) (MC s0 s1 handN handD gT gF alE actions alM fiF fiN fiD epN epD goH goN goD plS plP plM plA plBN plBD plLN plLD plR veW veF veP vsF vsN vsD juM juP juTN juTD juO scN scD noF noN noD neF neN neD arP1 arB1 arM1 arU arF1 arR1 arL1 arT arA1 arS1 leN1 leD1 grN1 grD1 arH1 arLU arGU shN shD stF1 stN1 stD1 rest) := by
  obtain ⟨wE, -, -, -, wA, -, -, -, -, -, -, wc, -, -, -, -, wcD, -, -, -, -⟩ := id hw
  have hai0 := hai
  obtain ⟨i1, i2, i3, i4, i5, i6⟩ := hai0
  have hR0 := hR
  obtain ⟨r1, r2, r3, r4⟩ := hR0
  have a1 := hA (r k / 2) (by omega) (by omega)
  have b0 := (hO _ a1.1 a1.2).2.1
  have b1 := tmo_b (r k)
  have hk0 : 0 ≤ k ∧ k < 25 := by omega
  have hk1 : 0 ≤ k + 1 ∧ k + 1 < 25 := by omega
  have hgr : ∀ i, 0 ≤ i → i < k + 1 → 0 ≤ r i ∧ r i < 2 * m := fun i z1 z2 => by
    by_cases h : i = k
    · rw [h]; exact r1
    · exact hrow i z1 (by omega)
  have hgs : ∀ s, grp r 0 (k + 1) (2 * s) → 0 ≤ s ∧ s < m := fun s ⟨i, z1, z2, z3⟩ => by have := hgr i z1 z2; omega
  have hms := mask_step hk.1 hR i4
  have hself : grp r 0 k (2 * (r k / 2)) → A (r k / 2) = A (r k / 2) := fun _ => rfl
  have m1 := act_m (s0 := s0) (s1 := s1) (rest := rest) (handN := handN) (handD := handD) (gT := gT) (gF := gF) (alE := alE) (alS := actions) (alM := alM) (fiF := fiF) (fiN := fiN) (fiD := fiD) (epN := epN) (epD := epD) (goH := goH) (goN := goN) (goD := goD) (plS := plS) (plP := plP) (plM := plM) (plA := plA) (plBN := plBN) (plBD := plBD) (plLN := plLN) (plLD := plLD) (plR := plR) (veW := veW) (veF := veF) (veP := veP) (vsF := vsF) (vsN := vsN) (vsD := vsD) (juM := juM) (juP := juP) (juTN := juTN) (juTD := juTD) (juO := juO) (scN := scN) (scD := scD) (noF := noF) (noN := noN) (noD := noD) (neF := neF) (neN := neN) (neD := neD) (arP := k) (arB := arB) (arM := arM) (arU := arU) (arF := (r k)) (arR := arR) (arL := arL) (arT := arT) (arA := arA) (arS := arS) (leN := leN) (leD := leD) (grN := grN) (grD := grD) (arH := arH) (arLU := arLU) (arGU := arGU) (shN := shN) (shD := shD) (stF := stF) (stN := stN) (stD := stD) hO wA a1.1 a1.2
  have m2 := act_m (s0 := s0) (s1 := s1) (rest := rest) (handN := handN) (handD := handD) (gT := gT) (gF := gF) (alE := alE) (alS := actions) (alM := alM) (fiF := fiF) (fiN := fiN) (fiD := fiD) (epN := epN) (epD := epD) (goH := goH) (goN := goN) (goD := goD) (plS := plS) (plP := plP) (plM := plM) (plA := plA) (plBN := plBN) (plBD := plBD) (plLN := plLN) (plLD := plLD) (plR := plR) (veW := veW) (veF := veF) (veP := veP) (vsF := vsF) (vsN := vsN) (vsD := vsD) (juM := juM) (juP := juP) (juTN := juTN) (juTD := juTD) (juO := juO) (scN := scN) (scD := scD) (noF := noF) (noN := noN) (noD := noD) (neF := neF) (neN := neN) (neD := neD) (arP := k) (arB := arB) (arM := arM) (arU := arU) (arF := (r k)) (arR := arR) (arL := arL) (arT := arT) (arA := arA) (arS := arS) (leN := leN) (leD := leD) (grN := grN) (grD := grD) (arH := arH) (arLU := arLU) (arGU := arGU) (shN := shN) (shD := shD) (stF := (up1 stF (k + 1) (stF k))) (stN := (up1 stN (k + 1) (stN k))) (stD := (up1 stD (k + 1) (stD k))) hO wA a1.1 a1.2
  have hcf := c_State_copyFrom (d := d + 3) (mem := (MC s0 s1 handN handD gT gF alE actions alM fiF fiN fiD epN epD goH goN goD plS plP plM plA plBN plBD plLN plLD plR veW veF veP vsF vsN vsD juM juP juTN juTD juO scN scD noF noN noD neF neN neD k arB arM arU (r k) arR arL arT arA arS leN leD grN grD arH arLU arGU shN shD stF stN stD rest)) (gS_State hk1) (gF_st hk1) (gS_State hk0) (gF_st hk0) (by omega) (by omega) (by omega)
  rw [stS_st hk1] at hcf
  have hs1 : (MC s0 s1 handN handD gT gF alE actions alM fiF fiN fiD epN epD goH goN goD plS plP plM plA plBN plBD plLN plLD plR veW veF veP vsF vsN vsD juM juP juTN juTD juO scN scD noF noN noD neF neN neD k arB arM arU (r k) arR arL arT arA arS leN leD grN grD arH arLU arGU shN shD (up1 stF (k + 1) (stF k)) (up1 stN (k + 1) (stN k)) (up1 stD (k + 1) (stD k)) rest)[68 + 4 * (k + 1).toNat]? = some (.inr (6, [.int (mk (stF k)), .ref (69 + 4 * (k + 1).toNat)])) := by
    have := gS_State (k := k + 1) (s0 := s0) (s1 := s1) (rest := rest) (handN := handN) (handD := handD) (gT := gT) (gF := gF) (alE := alE) (alS := actions) (alM := alM) (fiF := fiF) (fiN := fiN) (fiD := fiD) (epN := epN) (epD := epD) (goH := goH) (goN := goN) (goD := goD) (plS := plS) (plP := plP) (plM := plM) (plA := plA) (plBN := plBN) (plBD := plBD) (plLN := plLN) (plLD := plLD) (plR := plR) (veW := veW) (veF := veF) (veP := veP) (vsF := vsF) (vsN := vsN) (vsD := vsD) (juM := juM) (juP := juP) (juTN := juTN) (juTD := juTD) (juO := juO) (scN := scN) (scD := scD) (noF := noF) (noN := noN) (noD := noD) (neF := neF) (neN := neN) (neD := neD) (arP := k) (arB := arB) (arM := arM) (arU := arU) (arF := (r k)) (arR := arR) (arL := arL) (arT := arT) (arA := arA) (arS := arS) (leN := leN) (leD := leD) (grN := grN) (grD := grD) (arH := arH) (arLU := arLU) (arGU := arGU) (shN := shN) (shD := shD) (stF := (up1 stF (k + 1) (stF k))) (stN := (up1 stN (k + 1) (stN k))) (stD := (up1 stD (k + 1) (stD k))) hk1
    rw [up1_eq] at this
    exact this
  have hf1 : FI (MC s0 s1 handN handD gT gF alE actions alM fiF fiN fiD epN epD goH goN goD plS plP plM plA plBN plBD plLN plLD plR veW veF veP vsF vsN vsD juM juP juTN juTD juO scN scD noF noN noD neF neN neD k arB arM arU (r k) arR arL arT arA arS leN leD grN grD arH arLU arGU shN shD (up1 stF (k + 1) (stF k)) (up1 stN (k + 1) (stN k)) (up1 stD (k + 1) (stD k)) rest) (69 + 4 * (k + 1).toNat) (70 + 4 * (k + 1).toNat) (71 + 4 * (k + 1).toNat) 8 (stN k) (stD k) := by
    have := gF_st (k := k + 1) (s0 := s0) (s1 := s1) (rest := rest) (handN := handN) (handD := handD) (gT := gT) (gF := gF) (alE := alE) (alS := actions) (alM := alM) (fiF := fiF) (fiN := fiN) (fiD := fiD) (epN := epN) (epD := epD) (goH := goH) (goN := goN) (goD := goD) (plS := plS) (plP := plP) (plM := plM) (plA := plA) (plBN := plBN) (plBD := plBD) (plLN := plLN) (plLD := plLD) (plR := plR) (veW := veW) (veF := veF) (veP := veP) (vsF := vsF) (vsN := vsN) (vsD := vsD) (juM := juM) (juP := juP) (juTN := juTN) (juTD := juTD) (juO := juO) (scN := scN) (scD := scD) (noF := noF) (noN := noN) (noD := noD) (neF := neF) (neN := neN) (neD := neD) (arP := k) (arB := arB) (arM := arM) (arU := arU) (arF := (r k)) (arR := arR) (arL := arL) (arT := arT) (arA := arA) (arS := arS) (leN := leN) (leD := leD) (grN := grN) (grD := grD) (arH := arH) (arLU := arLU) (arGU := arGU) (shN := shN) (shD := shD) (stF := (up1 stF (k + 1) (stF k))) (stN := (up1 stN (k + 1) (stN k))) (stD := (up1 stD (k + 1) (stD k))) hk1
    rw [up1_eq, up1_eq] at this
    exact this
  obtain ⟨F2, N2, D2, j1, hch⟩ := c_M_change (d := d + 2) (a := A (r k / 2)) (by omega) hw m2 a1 hs1 hf1 (by omega) (by omega) (by omega) (by omega) wN (t := tmo (r k)) (by omega)
  rw [stS_st hk1, up1_up1, up1_up1, up1_up1] at hch
  have m0 := act_m (s0 := s0) (s1 := s1) (rest := rest) (handN := handN) (handD := handD) (gT := gT) (gF := gF) (alE := alE) (alS := actions) (alM := alM) (fiF := fiF) (fiN := fiN) (fiD := fiD) (epN := epN) (epD := epD) (goH := goH) (goN := goN) (goD := goD) (plS := plS) (plP := plP) (plM := plM) (plA := plA) (plBN := plBN) (plBD := plBD) (plLN := plLN) (plLD := plLD) (plR := plR) (veW := veW) (veF := veF) (veP := veP) (vsF := vsF) (vsN := vsN) (vsD := vsD) (juM := juM) (juP := juP) (juTN := juTN) (juTD := juTD) (juO := juO) (scN := scN) (scD := scD) (noF := noF) (noN := noN) (noD := noD) (neF := neF) (neN := neN) (neD := neD) (arP := k) (arB := arB) (arM := arM) (arU := arU) (arF := arF) (arR := arR) (arL := arL) (arT := arT) (arA := arA) (arS := arS) (leN := leN) (leD := leD) (grN := grN) (grD := grD) (arH := arH) (arLU := arLU) (arGU := arGU) (shN := shN) (shD := shD) (stF := stF) (stN := stN) (stD := stD) hO wA a1.1 a1.2
  by_cases hf : fit needs needTime needOf needHow needN needD (stF k) (stN k) (stD k) (A (r k / 2)) (tmo (r k))
  · cases hc : chAll changeTime changeOf changeHow changeN changeD (tmo (r k)) (changes (A (r k / 2))).toNat (6 * A (r k / 2)) (stF k, stN k, stD k) with
    | none =>
      have hN : ¬ ∃ S, chAll changeTime changeOf changeHow changeN changeD (tmo (r k)) (changes (A (r k / 2))).toNat (6 * A (r k / 2)) (stF k, stN k, stD k) = some S := by
        rintro ⟨S, hS⟩
        rw [hc] at hS
        cases hS
      refine ⟨4, k, r k, arB, arM, arR, arL, arA, arS, leN, leD, grN, grD, arH, (up1 stF (k + 1) F2), (up1 stN (k + 1) N2), (up1 stD (k + 1) D2), Or.inr ⟨hf, Or.inl ⟨rfl, rfl, rfl, rfl, hai.behind0⟩⟩, ?_⟩
      refine Cg.of (Nat.le_of_ble_eq_true rfl) ?_
      change Rg _ _ _ _ 0 [(0, .ref 49), (1, .ref 6), (2, .int (iI (r k))), (3, .int (iI (A (r k / 2))))] [] _ _ _
      refine Rg.step 1 F_Arranger_addPoint_0 rfl (fun _ => rfl) ?_
      refine Rg.step 2 F_Arranger_addPoint_1 rfl (fun _ => rfl) ?_
      refine Rg.divIp 3 F_Arranger_addPoint_2 rfl (by omega) (by omega) ?_
      refine Rg.step 5 F_Arranger_addPoint_3 rfl (fun _ => rfl) ?_
      refine Rg.step 6 F_Arranger_addPoint_5 rfl (fun _ => rfl) ?_
      refine Rg.call 9 F_Arranger_addPoint_6 rfl (one_S (by decide +kernel) rM_13_96 (by decide) (by simp) rfl rfl) (Nat.le_of_ble_eq_true rfl) (Cg.any (c_PJ_timeOf (by omega))) ?_
      refine Rg.step 11 F_Arranger_addPoint_9 rfl (fun _ => rfl) ?_
      refine Rg.step 12 F_Arranger_addPoint_11 rfl (fun _ => rfl) ?_
      refine Rg.getf 15 F_Arranger_addPoint_12 rfl rF_13_100 gC_6 rfl ?_
      refine Rg.step 16 F_Arranger_addPoint_15 rfl (fun _ => rfl) ?_
      refine Rg.call 19 F_Arranger_addPoint_16 rfl (one_V rM_13_104 (by decide) (by simp) rfl rfl gC_7 rfl) (Nat.le_of_ble_eq_true rfl) (Cg.any (c_list_get hO wA a1.1 a1.2)) ?_
      refine Rg.cast 22 F_Arranger_addPoint_19 rfl rC_13_110 (actO m0) ?_
      refine Rg.step 24 F_Arranger_addPoint_22 rfl (fun _ => rfl) ?_
      refine Rg.step 25 F_Arranger_addPoint_24 rfl (fun _ => rfl) ?_
      refine Rg.getf 28 F_Arranger_addPoint_25 rfl rF_13_11 gC_49 rfl ?_
      refine Rg.step 29 F_Arranger_addPoint_28 rfl (fun _ => rfl) ?_
      refine Rg.getf 32 F_Arranger_addPoint_29 rfl rF_13_64 gC_49 rfl ?_
      refine Rg.aald 33 F_Arranger_addPoint_32 rfl gC_50 (ix_iI (by omega)) (gStates hk0) ?_
      refine Rg.step 35 F_Arranger_addPoint_33 rfl (fun _ => rfl) ?_
      refine Rg.step 36 F_Arranger_addPoint_35 rfl (fun _ => rfl) ?_
      refine Rg.getf 39 F_Arranger_addPoint_36 rfl rF_13_11 gC_49 rfl ?_
      refine Rg.step 40 F_Arranger_addPoint_39 rfl (fun _ => rfl) ?_
      refine Rg.getf 43 F_Arranger_addPoint_40 rfl rF_13_64 gC_49 rfl ?_
      refine Rg.step 44 F_Arranger_addPoint_43 rfl (fun _ => rfl) ?_
      refine Rg.addI 45 F_Arranger_addPoint_44 rfl ?_
      refine Rg.aald 46 F_Arranger_addPoint_45 rfl gC_50 (ix_iI (by omega)) (gStates hk1) ?_
      refine Rg.step 48 F_Arranger_addPoint_46 rfl (fun _ => rfl) ?_
      refine Rg.step 49 F_Arranger_addPoint_48 rfl (fun _ => rfl) ?_
      refine Rg.step 50 F_Arranger_addPoint_49 rfl (fun _ => rfl) ?_
      refine Rg.put 53 F_Arranger_addPoint_50 rfl rF_13_112 gC_49 (by decide) (Nat.le_of_ble_eq_true rfl) (Or.inl rfl) rfl sO_arF ?_
      refine Rg.step 55 F_Arranger_addPoint_53 rfl (fun _ => rfl) ?_
      refine Rg.step 57 F_Arranger_addPoint_55 rfl (fun _ => rfl) ?_
      refine Rg.step 59 F_Arranger_addPoint_57 rfl (fun _ => rfl) ?_
      refine Rg.call 62 F_Arranger_addPoint_59 rfl (one_V rM_13_115 (by decide) (by simp) rfl rfl (actO m1) rfl) (Nat.le_of_ble_eq_true rfl) (Cg.any (c_M_isMet (by omega) hw m1 a1 (gS_State hk0) (gF_st hk0) wN (by omega))) ?_
      refine Rg.ifneP 67 65 F_Arranger_addPoint_62 rfl rfl (fun _ => ?_) (fun h62 => absurd hf h62)
      refine Rg.step 69 F_Arranger_addPoint_67 rfl (fun _ => rfl) ?_
      refine Rg.step 71 F_Arranger_addPoint_69 rfl (fun _ => rfl) ?_
      refine Rg.call 74 F_Arranger_addPoint_71 rfl (one_V rM_13_60 (by decide) (by simp) rfl rfl (gS_State hk1) rfl) (Nat.le_of_ble_eq_true rfl) hcf ?_
      refine Rg.step 76 F_Arranger_addPoint_74 rfl (fun _ => rfl) ?_
      refine Rg.step 78 F_Arranger_addPoint_76 rfl (fun _ => rfl) ?_
      refine Rg.step 80 F_Arranger_addPoint_78 rfl (fun _ => rfl) ?_
      refine Rg.call 83 F_Arranger_addPoint_80 rfl (one_V rM_13_119 (by decide) (by simp) rfl rfl (actO m2) rfl) (Nat.le_of_ble_eq_true rfl) hch ?_
      refine Rg.ifneP 88 86 F_Arranger_addPoint_83 rfl rfl (fun h83 => absurd h83 hN) (fun _ => ?_)
      refine Rg.step 87 F_Arranger_addPoint_86 rfl (fun _ => rfl) ?_
      exact Rg.retI F_Arranger_addPoint_87 rfl rfl rfl
    | some S2 =>
      have hS2 : S2 = (F2, N2, D2) := j1 S2 hc
      subst hS2
      have hY : ∃ S, chAll changeTime changeOf changeHow changeN changeD (tmo (r k)) (changes (A (r k / 2))).toNat (6 * A (r k / 2)) (stF k, stN k, stD k) = some S := ⟨_, hc⟩
      have wN2 : WN N2 D2 := chAll_WN _ _ _ (F2, N2, D2) (fun q y1 y2 => wcD _ q a1.1 a1.2 y1 (by have := wc (A (r k / 2)); omega)) wN hc
      have hAA : ∀ s, 0 ≤ s → grp r 0 (k + 1) (2 * s) → up1 arA (r k / 2) (A (r k / 2)) s = A s := fun s z1 z2 => by
        by_cases h : s = r k / 2
        · rw [h, up1_eq]
        · rw [up1_ne _ _ h]
          exact (i5 s z1 (((grp_1 hk.1).mp z2).resolve_right (fun v => by omega))).1
      have hs2 : (MC s0 s1 handN handD gT gF alE actions alM fiF fiN fiD epN epD goH goN goD plS plP plM plA plBN plBD plLN plLD plR veW veF veP vsF vsN vsD juM juP juTN juTD juO scN scD noF noN noD neF neN neD k arB arM arU (r k) arR arL arT (up1 arA (r k / 2) (A (r k / 2))) arS leN leD grN grD arH arLU arGU shN shD (up1 stF (k + 1) F2) (up1 stN (k + 1) N2) (up1 stD (k + 1) D2) rest)[68 + 4 * (k + 1).toNat]? = some (.inr (6, [.int (mk F2), .ref (69 + 4 * (k + 1).toNat)])) := by
        have := gS_State (k := k + 1) (s0 := s0) (s1 := s1) (rest := rest) (handN := handN) (handD := handD) (gT := gT) (gF := gF) (alE := alE) (alS := actions) (alM := alM) (fiF := fiF) (fiN := fiN) (fiD := fiD) (epN := epN) (epD := epD) (goH := goH) (goN := goN) (goD := goD) (plS := plS) (plP := plP) (plM := plM) (plA := plA) (plBN := plBN) (plBD := plBD) (plLN := plLN) (plLD := plLD) (plR := plR) (veW := veW) (veF := veF) (veP := veP) (vsF := vsF) (vsN := vsN) (vsD := vsD) (juM := juM) (juP := juP) (juTN := juTN) (juTD := juTD) (juO := juO) (scN := scN) (scD := scD) (noF := noF) (noN := noN) (noD := noD) (neF := neF) (neN := neN) (neD := neD) (arP := k) (arB := arB) (arM := arM) (arU := arU) (arF := (r k)) (arR := arR) (arL := arL) (arT := arT) (arA := (up1 arA (r k / 2) (A (r k / 2)))) (arS := arS) (leN := leN) (leD := leD) (grN := grN) (grD := grD) (arH := arH) (arLU := arLU) (arGU := arGU) (shN := shN) (shD := shD) (stF := (up1 stF (k + 1) F2)) (stN := (up1 stN (k + 1) N2)) (stD := (up1 stD (k + 1) D2)) hk1
        rw [up1_eq] at this
        exact this
      have hf2 : FI (MC s0 s1 handN handD gT gF alE actions alM fiF fiN fiD epN epD goH goN goD plS plP plM plA plBN plBD plLN plLD plR veW veF veP vsF vsN vsD juM juP juTN juTD juO scN scD noF noN noD neF neN neD k arB arM arU (r k) arR arL arT (up1 arA (r k / 2) (A (r k / 2))) arS leN leD grN grD arH arLU arGU shN shD (up1 stF (k + 1) F2) (up1 stN (k + 1) N2) (up1 stD (k + 1) D2) rest) (69 + 4 * (k + 1).toNat) (70 + 4 * (k + 1).toNat) (71 + 4 * (k + 1).toNat) 8 N2 D2 := by
        have := gF_st (k := k + 1) (s0 := s0) (s1 := s1) (rest := rest) (handN := handN) (handD := handD) (gT := gT) (gF := gF) (alE := alE) (alS := actions) (alM := alM) (fiF := fiF) (fiN := fiN) (fiD := fiD) (epN := epN) (epD := epD) (goH := goH) (goN := goN) (goD := goD) (plS := plS) (plP := plP) (plM := plM) (plA := plA) (plBN := plBN) (plBD := plBD) (plLN := plLN) (plLD := plLD) (plR := plR) (veW := veW) (veF := veF) (veP := veP) (vsF := vsF) (vsN := vsN) (vsD := vsD) (juM := juM) (juP := juP) (juTN := juTN) (juTD := juTD) (juO := juO) (scN := scN) (scD := scD) (noF := noF) (noN := noN) (noD := noD) (neF := neF) (neN := neN) (neD := neD) (arP := k) (arB := arB) (arM := arM) (arU := arU) (arF := (r k)) (arR := arR) (arL := arL) (arT := arT) (arA := (up1 arA (r k / 2) (A (r k / 2)))) (arS := arS) (leN := leN) (leD := leD) (grN := grN) (grD := grD) (arH := arH) (arLU := arLU) (arGU := arGU) (shN := shN) (shD := shD) (stF := (up1 stF (k + 1) F2)) (stN := (up1 stN (k + 1) N2)) (stD := (up1 stD (k + 1) D2)) hk1
        rw [up1_eq, up1_eq] at this
        exact this
      obtain ⟨r5, f5, c5⟩ := c_Ar_all (d := d) (K := (fun i => arM i ↔ ¬ i = r k / 2)) (s0 := s0) (s1 := s1) (rest := rest) (handN := handN) (handD := handD) (gT := gT) (gF := gF) (alE := alE) (alM := alM) (fiF := fiF) (fiN := fiN) (fiD := fiD) (epN := epN) (epD := epD) (goH := goH) (goN := goN) (goD := goD) (plS := plS) (plP := plP) (plM := plM) (plA := plA) (plBN := plBN) (plBD := plBD) (plLN := plLN) (plLD := plLD) (plR := plR) (veW := veW) (veF := veF) (veP := veP) (vsF := vsF) (vsN := vsN) (vsD := vsD) (juM := juM) (juP := juP) (juTN := juTN) (juTD := juTD) (juO := juO) (scN := scN) (scD := scD) (noF := noF) (noN := noN) (noD := noD) (neF := neF) (neN := neN) (neD := neD) (arP := k) (arB := arB) (arM := arM) (arU := arU) (arF := (r k)) (arR := arR) (arL := arL) (arT := arT) (arA := (up1 arA (r k / 2) (A (r k / 2)))) (arS := arS) (leN := leN) (leD := leD) (grN := grN) (grD := grD) (arH := arH) (arLU := arLU) (arGU := arGU) (shN := shN) (shD := shD) (stF := (up1 stF (k + 1) F2)) (stN := (up1 stN (k + 1) N2)) (stD := (up1 stD (k + 1) D2)) hw hO hs2 hf2 wN2 (fun s z1 z2 z3 => by
        have y1 := ((hms s z1 (by omega)).mp z3).1
        rw [hAA s z1 y1]
        exact hA s z1 (hgs s y1).2) (fun s z1 z2 z3 => by
        have y1 := hgs s ((hms s (by omega) z2).mp z3).1
        omega)
      have hbad : ∀ s, 0 ≤ s → s < 12 → (((fun i => arM i ↔ ¬ i = r k / 2) s ∧ ¬ fit needs needTime needOf needHow needN needD F2 N2 D2 (up1 arA (r k / 2) (A (r k / 2)) s) 1) ↔ badS (fun S s t => fit needs needTime needOf needHow needN needD S.1 S.2.1 S.2.2 (A s) t) (grp r 0 (k + 1)) (F2, N2, D2) s) := fun s z1 z2 => by
        constructor
        · rintro ⟨y1, y2⟩
          have y3 := (hms s z1 (by omega)).mp y1
          rw [hAA s z1 y3.1] at y2
          exact ⟨y3.1, y3.2, y2⟩
        · rintro ⟨y1, y2, y3⟩
          refine ⟨(hms s z1 (by omega)).mpr ⟨y1, y2⟩, ?_⟩
          rw [hAA s z1 y1]
          exact y3
      rcases f5 with ⟨t5, n5⟩ | ⟨s, s1, s2, s3, s4, s5⟩
      · subst t5
        have hRL : ∀ i, 0 ≤ i → i < k → 0 ≤ arR i ∧ arR i < 24 ∧ 0 ≤ up1 arA (r k / 2) (A (r k / 2)) (arR i / 2) ∧ up1 arA (r k / 2) (A (r k / 2)) (arR i / 2) < actions := fun i z1 z2 => by
          have y1 := hrow i z1 z2
          have y2 : grp r 0 k (2 * (r i / 2)) := by
            by_cases ev : r i % 2 = 0
            · exact ⟨i, z1, z2, by omega⟩
            · exact r4 (r i / 2) ⟨i, z1, z2, by omega⟩
          rw [i1 i z1 z2, hAA _ (by omega) ((grp_1 hk.1).mpr (Or.inl y2))]
          have y3 := hA (r i / 2) (by omega) (by omega)
          omega
        have hAL : ∀ i, 0 ≤ i → i < k → up1 arA (r k / 2) (A (r k / 2)) (arR i / 2) = A (r i / 2) := fun i z1 z2 => by
          have y1 := hrow i z1 z2
          have y2 : grp r 0 k (2 * (r i / 2)) := by
            by_cases ev : r i % 2 = 0
            · exact ⟨i, z1, z2, by omega⟩
            · exact r4 (r i / 2) ⟨i, z1, z2, by omega⟩
          rw [i1 i z1 z2, hAA _ (by omega) ((grp_1 hk.1).mpr (Or.inl y2))]
        have nobad : ∀ q, 0 ≤ q → q < 12 → ¬ badS (fun S s t => fit needs needTime needOf needHow needN needD S.1 S.2.1 S.2.2 (A s) t) (grp r 0 (k + 1)) (F2, N2, D2) q := fun q z1 z2 z => n5 q z1 z2 ((hbad q z1 z2).mpr z)
        by_cases ev : r k % 2 = 0
        · have hstN : up1 stN (k + 1) N2 k = stN k := up1_ne _ _ (by omega)
          have hstD : up1 stD (k + 1) D2 k = stD k := up1_ne _ _ (by omega)
          have hbo := c_Ar_bounds (d := d + 2) (s0 := s0) (s1 := s1) (rest := rest) (handN := handN) (handD := handD) (gT := gT) (gF := gF) (alE := alE) (alM := alM) (fiF := fiF) (fiN := fiN) (fiD := fiD) (epN := epN) (epD := epD) (goH := goH) (goN := goN) (goD := goD) (plS := plS) (plP := plP) (plM := plM) (plA := plA) (plBN := plBN) (plBD := plBD) (plLN := plLN) (plLD := plLD) (plR := plR) (veW := veW) (veF := veF) (veP := veP) (vsF := vsF) (vsN := vsN) (vsD := vsD) (juM := juM) (juP := juP) (juTN := juTN) (juTD := juTD) (juO := juO) (scN := scN) (scD := scD) (noF := noF) (noN := noN) (noD := noD) (neF := neF) (neN := neN) (neD := neD) (arB := arB) (arM := arM) (arU := arU) (arF := (-1)) (arR := arR) (arL := arL) (arT := arT) (arA := (up1 arA (r k / 2) (A (r k / 2)))) (arS := (up1 arS (r k / 2) k)) (leN := leN) (leD := leD) (grN := grN) (grD := grD) (arH := arH) (arLU := arLU) (arGU := arGU) (shN := shN) (shD := shD) (stF := (up1 stF (k + 1) F2)) (stN := (up1 stN (k + 1) N2)) (stD := (up1 stD (k + 1) D2)) hw hO hE he (k := k) hk0 (by rw [hstN, hstD]; exact wN) (a := A (r k / 2)) (s := r k / 2) a1 (by omega)
          rw [hstN, hstD] at hbo
          obtain ⟨gn, gd, hgn, hbo⟩ := hbo
          have m4 := act_m (s0 := s0) (s1 := s1) (rest := rest) (handN := handN) (handD := handD) (gT := gT) (gF := gF) (alE := alE) (alS := actions) (alM := alM) (fiF := fiF) (fiN := fiN) (fiD := fiD) (epN := epN) (epD := epD) (goH := goH) (goN := goN) (goD := goD) (plS := plS) (plP := plP) (plM := plM) (plA := plA) (plBN := plBN) (plBD := plBD) (plLN := plLN) (plLD := plLD) (plR := plR) (veW := veW) (veF := veF) (veP := veP) (vsF := vsF) (vsN := vsN) (vsD := vsD) (juM := juM) (juP := juP) (juTN := juTN) (juTD := juTD) (juO := juO) (scN := scN) (scD := scD) (noF := noF) (noN := noN) (noD := noD) (neF := neF) (neN := neN) (neD := neD) (arP := k) (arB := arB) (arM := arM) (arU := arU) (arF := (-1)) (arR := arR) (arL := arL) (arT := arT) (arA := (up1 arA (r k / 2) (A (r k / 2)))) (arS := (up1 arS (r k / 2) k)) (leN := leN) (leD := leD) (grN := grN) (grD := grD) (arH := arH) (arLU := arLU) (arGU := arGU) (shN := shN) (shD := shD) (stF := (up1 stF (k + 1) F2)) (stN := (up1 stN (k + 1) N2)) (stD := (up1 stD (k + 1) D2)) hO wA a1.1 a1.2
          have m5 := act_m (s0 := s0) (s1 := s1) (rest := rest) (handN := handN) (handD := handD) (gT := gT) (gF := gF) (alE := alE) (alS := actions) (alM := alM) (fiF := fiF) (fiN := fiN) (fiD := fiD) (epN := epN) (epD := epD) (goH := goH) (goN := goN) (goD := goD) (plS := plS) (plP := plP) (plM := plM) (plA := plA) (plBN := plBN) (plBD := plBD) (plLN := plLN) (plLD := plLD) (plR := plR) (veW := veW) (veF := veF) (veP := veP) (vsF := vsF) (vsN := vsN) (vsD := vsD) (juM := juM) (juP := juP) (juTN := juTN) (juTD := juTD) (juO := juO) (scN := scN) (scD := scD) (noF := noF) (noN := noN) (noD := noD) (neF := neF) (neN := neN) (neD := neD) (arP := k) (arB := (arB + 1)) (arM := arM) (arU := arU) (arF := (-1)) (arR := arR) (arL := arL) (arT := arT) (arA := (up1 arA (r k / 2) (A (r k / 2)))) (arS := (up1 arS (r k / 2) k)) (leN := (up1 leN (r k / 2) (lbN lastOf lastN lastD epsilonN epsilonD (stN k) (stD k) (A (r k / 2))))) (leD := (up1 leD (r k / 2) (lbD lastOf lastN lastD epsilonN epsilonD (stN k) (stD k) (A (r k / 2))))) (grN := (up1 grN (r k / 2) gn)) (grD := (up1 grD (r k / 2) gd)) (arH := (up1 arH (r k / 2) (¬ (gbD lastOf lastN lastD (stN k) (stD k) (A (r k / 2))) = 0))) (arLU := arLU) (arGU := arGU) (shN := shN) (shD := shD) (stF := (up1 stF (k + 1) F2)) (stN := (up1 stN (k + 1) N2)) (stD := (up1 stD (k + 1) D2)) hO wA a1.1 a1.2
          obtain ⟨l, hlat, hla⟩ := c_Ar_latest (d := d + 1) (s0 := s0) (s1 := s1) (rest := rest) (handN := handN) (handD := handD) (gT := gT) (gF := gF) (alE := alE) (alM := alM) (fiF := fiF) (fiN := fiN) (fiD := fiD) (epN := epN) (epD := epD) (goH := goH) (goN := goN) (goD := goD) (plS := plS) (plP := plP) (plM := plM) (plA := plA) (plBN := plBN) (plBD := plBD) (plLN := plLN) (plLD := plLD) (plR := plR) (veW := veW) (veF := veF) (veP := veP) (vsF := vsF) (vsN := vsN) (vsD := vsD) (juM := juM) (juP := juP) (juTN := juTN) (juTD := juTD) (juO := juO) (scN := scN) (scD := scD) (noF := noF) (noN := noN) (noD := noD) (neF := neF) (neN := neN) (neD := neD) (arB := (arB + 1)) (arM := arM) (arU := arU) (arF := (-1)) (arR := arR) (arL := arL) (arT := arT) (arA := (up1 arA (r k / 2) (A (r k / 2)))) (arS := (up1 arS (r k / 2) k)) (leN := (up1 leN (r k / 2) (lbN lastOf lastN lastD epsilonN epsilonD (stN k) (stD k) (A (r k / 2))))) (leD := (up1 leD (r k / 2) (lbD lastOf lastN lastD epsilonN epsilonD (stN k) (stD k) (A (r k / 2))))) (grN := (up1 grN (r k / 2) gn)) (grD := (up1 grD (r k / 2) gd)) (arH := (up1 arH (r k / 2) (¬ (gbD lastOf lastN lastD (stN k) (stD k) (A (r k / 2))) = 0))) (arLU := arLU) (arGU := arGU) (shN := shN) (shD := shD) (stF := (up1 stF (k + 1) F2)) (stN := (up1 stN (k + 1) N2)) (stD := (up1 stD (k + 1) D2)) hw hO (k := k) (by omega) hRL (a := A (r k / 2)) (t := tmo (r k)) a1 (by omega)
          have hl : LI r (intP A needs needTime needHow needOf lastOf changes changeTime changeHow changeOf) (up1 arL k l) k := by
            unfold LI
            rw [up1_eq]
            rcases hlat with ⟨y1, y2⟩ | ⟨y1, y2, y3, y4⟩
            · refine Or.inl ⟨y1, fun j z1 z2 z => y2 j z1 z2 ?_⟩
              rw [hAL j z1 z2, i1 j z1 z2]
              exact z
            · refine Or.inr ⟨y1, y2, ?_, fun j z1 z2 z => y4 j z1 z2 ?_⟩
              · rw [hAL l y1 y2, i1 l y1 y2] at y3
                exact y3
              · rw [hAL j (by omega) z2, i1 j (by omega) z2]
                exact z
          refine ⟨0, k + 1, -1, arB + 1, (fun i => arM i ↔ ¬ i = r k / 2), (up1 arR k (r k)), (up1 arL k l), (up1 arA (r k / 2) (A (r k / 2))), (up1 arS (r k / 2) k), (up1 leN (r k / 2) (lbN lastOf lastN lastD epsilonN epsilonD (stN k) (stD k) (A (r k / 2)))), (up1 leD (r k / 2) (lbD lastOf lastN lastD epsilonN epsilonD (stN k) (stD k) (A (r k / 2)))), (up1 grN (r k / 2) gn), (up1 grD (r k / 2) gd), (up1 arH (r k / 2) (¬ (gbD lastOf lastN lastD (stN k) (stD k) (A (r k / 2))) = 0)), (up1 stF (k + 1) F2), (up1 stN (k + 1) N2), (up1 stD (k + 1) D2), Or.inr ⟨hf, Or.inr ⟨F2, N2, D2, rfl, wN2, Or.inr ⟨rfl, nobad, rfl, ?_⟩⟩⟩, ?_⟩
          · rw [if_pos ev]
            exact hai.beg hk.1 hR hm.2 ev (S2 := (F2, N2, D2)) (b := (lbN lastOf lastN lastD epsilonN epsilonD (stN k) (stD k) (A (r k / 2)), lbD lastOf lastN lastD epsilonN epsilonD (stN k) (stD k) (A (r k / 2)), gbN lastOf lastN lastD (stN k) (stD k) (A (r k / 2)), gbD lastOf lastN lastD (stN k) (stD k) (A (r k / 2)))) hl (bn_bd (triedAction := A) (s := r k / 2) (numN := stN k) (numD := stD k) hw wN a1) hgn
          · refine Cg.of (Nat.le_of_ble_eq_true rfl) ?_
            change Rg _ _ _ _ 0 [(0, .ref 49), (1, .ref 6), (2, .int (iI (r k))), (3, .int (iI (A (r k / 2))))] [] _ _ _
            refine Rg.step 1 F_Arranger_addPoint_0 rfl (fun _ => rfl) ?_
            refine Rg.step 2 F_Arranger_addPoint_1 rfl (fun _ => rfl) ?_
            refine Rg.divIp 3 F_Arranger_addPoint_2 rfl (by omega) (by omega) ?_
            refine Rg.step 5 F_Arranger_addPoint_3 rfl (fun _ => rfl) ?_
            refine Rg.step 6 F_Arranger_addPoint_5 rfl (fun _ => rfl) ?_
            refine Rg.call 9 F_Arranger_addPoint_6 rfl (one_S (by decide +kernel) rM_13_96 (by decide) (by simp) rfl rfl) (Nat.le_of_ble_eq_true rfl) (Cg.any (c_PJ_timeOf (by omega))) ?_
            refine Rg.step 11 F_Arranger_addPoint_9 rfl (fun _ => rfl) ?_
            refine Rg.step 12 F_Arranger_addPoint_11 rfl (fun _ => rfl) ?_
            refine Rg.getf 15 F_Arranger_addPoint_12 rfl rF_13_100 gC_6 rfl ?_
            refine Rg.step 16 F_Arranger_addPoint_15 rfl (fun _ => rfl) ?_
            refine Rg.call 19 F_Arranger_addPoint_16 rfl (one_V rM_13_104 (by decide) (by simp) rfl rfl gC_7 rfl) (Nat.le_of_ble_eq_true rfl) (Cg.any (c_list_get hO wA a1.1 a1.2)) ?_
            refine Rg.cast 22 F_Arranger_addPoint_19 rfl rC_13_110 (actO m0) ?_
            refine Rg.step 24 F_Arranger_addPoint_22 rfl (fun _ => rfl) ?_
            refine Rg.step 25 F_Arranger_addPoint_24 rfl (fun _ => rfl) ?_
            refine Rg.getf 28 F_Arranger_addPoint_25 rfl rF_13_11 gC_49 rfl ?_
            refine Rg.step 29 F_Arranger_addPoint_28 rfl (fun _ => rfl) ?_
            refine Rg.getf 32 F_Arranger_addPoint_29 rfl rF_13_64 gC_49 rfl ?_
            refine Rg.aald 33 F_Arranger_addPoint_32 rfl gC_50 (ix_iI (by omega)) (gStates hk0) ?_
            refine Rg.step 35 F_Arranger_addPoint_33 rfl (fun _ => rfl) ?_
            refine Rg.step 36 F_Arranger_addPoint_35 rfl (fun _ => rfl) ?_
            refine Rg.getf 39 F_Arranger_addPoint_36 rfl rF_13_11 gC_49 rfl ?_
            refine Rg.step 40 F_Arranger_addPoint_39 rfl (fun _ => rfl) ?_
            refine Rg.getf 43 F_Arranger_addPoint_40 rfl rF_13_64 gC_49 rfl ?_
            refine Rg.step 44 F_Arranger_addPoint_43 rfl (fun _ => rfl) ?_
            refine Rg.addI 45 F_Arranger_addPoint_44 rfl ?_
            refine Rg.aald 46 F_Arranger_addPoint_45 rfl gC_50 (ix_iI (by omega)) (gStates hk1) ?_
            refine Rg.step 48 F_Arranger_addPoint_46 rfl (fun _ => rfl) ?_
            refine Rg.step 49 F_Arranger_addPoint_48 rfl (fun _ => rfl) ?_
            refine Rg.step 50 F_Arranger_addPoint_49 rfl (fun _ => rfl) ?_
            refine Rg.put 53 F_Arranger_addPoint_50 rfl rF_13_112 gC_49 (by decide) (Nat.le_of_ble_eq_true rfl) (Or.inl rfl) rfl sO_arF ?_
            refine Rg.step 55 F_Arranger_addPoint_53 rfl (fun _ => rfl) ?_
            refine Rg.step 57 F_Arranger_addPoint_55 rfl (fun _ => rfl) ?_
            refine Rg.step 59 F_Arranger_addPoint_57 rfl (fun _ => rfl) ?_
            refine Rg.call 62 F_Arranger_addPoint_59 rfl (one_V rM_13_115 (by decide) (by simp) rfl rfl (actO m1) rfl) (Nat.le_of_ble_eq_true rfl) (Cg.any (c_M_isMet (by omega) hw m1 a1 (gS_State hk0) (gF_st hk0) wN (by omega))) ?_
            refine Rg.ifneP 67 65 F_Arranger_addPoint_62 rfl rfl (fun _ => ?_) (fun h62 => absurd hf h62)
            refine Rg.step 69 F_Arranger_addPoint_67 rfl (fun _ => rfl) ?_
            refine Rg.step 71 F_Arranger_addPoint_69 rfl (fun _ => rfl) ?_
            refine Rg.call 74 F_Arranger_addPoint_71 rfl (one_V rM_13_60 (by decide) (by simp) rfl rfl (gS_State hk1) rfl) (Nat.le_of_ble_eq_true rfl) hcf ?_
            refine Rg.step 76 F_Arranger_addPoint_74 rfl (fun _ => rfl) ?_
            refine Rg.step 78 F_Arranger_addPoint_76 rfl (fun _ => rfl) ?_
            refine Rg.step 80 F_Arranger_addPoint_78 rfl (fun _ => rfl) ?_
            refine Rg.call 83 F_Arranger_addPoint_80 rfl (one_V rM_13_119 (by decide) (by simp) rfl rfl (actO m2) rfl) (Nat.le_of_ble_eq_true rfl) hch ?_
            refine Rg.ifneP 88 86 F_Arranger_addPoint_83 rfl rfl (fun _ => ?_) (fun h83 => absurd hY h83)
            refine Rg.step 89 F_Arranger_addPoint_88 rfl (fun _ => rfl) ?_
            refine Rg.getf 92 F_Arranger_addPoint_89 rfl rF_13_28 gC_49 rfl ?_
            refine Rg.step 94 F_Arranger_addPoint_92 rfl (fun _ => rfl) ?_
            refine Rg.step 95 F_Arranger_addPoint_94 rfl (fun _ => rfl) ?_
            refine Rg.ist 96 F_Arranger_addPoint_95 rfl gC_54 (by decide) sC_arA (by omega) (by decide) ?_
            refine Rg.step 97 F_Arranger_addPoint_96 rfl (fun _ => rfl) ?_
            refine Rg.getf 100 F_Arranger_addPoint_97 rfl rF_13_71 gC_49 rfl ?_
            refine Rg.step 101 F_Arranger_addPoint_100 rfl (fun _ => rfl) ?_
            refine Rg.step 103 F_Arranger_addPoint_101 rfl (fun _ => rfl) ?_
            refine Rg.shlK 104 F_Arranger_addPoint_103 rfl (by omega) ?_
            refine Rg.xorK 105 F_Arranger_addPoint_104 rfl ?_
            refine Rg.step 107 F_Arranger_addPoint_105 rfl (fun _ => rfl) ?_
            refine Rg.step 108 F_Arranger_addPoint_107 rfl (fun _ => rfl) ?_
            refine Rg.step 109 F_Arranger_addPoint_108 rfl (fun _ => rfl) ?_
            refine Rg.step 110 F_Arranger_addPoint_109 rfl (fun _ => rfl) ?_
            refine Rg.step 112 F_Arranger_addPoint_110 rfl (fun _ => rfl) ?_
            refine Rg.step 114 F_Arranger_addPoint_112 rfl (fun _ => rfl) ?_
            refine Rg.call 117 F_Arranger_addPoint_114 rfl (one_V rM_13_122 (by decide) (by simp) rfl rfl gC_49 rfl) (Nat.le_of_ble_eq_true rfl) (Cg.any c5) ?_
            refine Rg.put 120 F_Arranger_addPoint_117 rfl rF_13_112 gC_49 (by decide) (Nat.le_of_ble_eq_true rfl) (Or.inl rfl) rfl sO_arF ?_
            refine Rg.step 121 F_Arranger_addPoint_120 rfl (fun _ => rfl) ?_
            refine Rg.getf 124 F_Arranger_addPoint_121 rfl rF_13_112 gC_49 rfl ?_
            refine Rg.step 125 F_Arranger_addPoint_124 rfl (fun _ => rfl) ?_
            refine Rg.iceqI 130 128 F_Arranger_addPoint_125 rfl rfl (by omega) (by omega) (fun _ => ?_) (fun h125 => absurd rfl h125)
            refine Rg.step 132 F_Arranger_addPoint_130 rfl (fun _ => rfl) ?_
            refine Rg.ifneI 165 135 F_Arranger_addPoint_132 rfl rfl (by omega) (fun h132 => by omega) (fun _ => ?_)
            refine Rg.step 136 F_Arranger_addPoint_135 rfl (fun _ => rfl) ?_
            refine Rg.getf 139 F_Arranger_addPoint_136 rfl rF_13_31 gC_49 rfl ?_
            refine Rg.step 141 F_Arranger_addPoint_139 rfl (fun _ => rfl) ?_
            refine Rg.step 142 F_Arranger_addPoint_141 rfl (fun _ => rfl) ?_
            refine Rg.getf 145 F_Arranger_addPoint_142 rfl rF_13_64 gC_49 rfl ?_
            refine Rg.ist 146 F_Arranger_addPoint_145 rfl gC_55 (by decide) sC_arS (by omega) (by decide) ?_
            refine Rg.step 147 F_Arranger_addPoint_146 rfl (fun _ => rfl) ?_
            refine Rg.step 148 F_Arranger_addPoint_147 rfl (fun _ => rfl) ?_
            refine Rg.step 150 F_Arranger_addPoint_148 rfl (fun _ => rfl) ?_
            refine Rg.step 152 F_Arranger_addPoint_150 rfl (fun _ => rfl) ?_
            refine Rg.call 155 F_Arranger_addPoint_152 rfl (one_V rM_13_126 (by decide) (by simp) rfl rfl gC_49 rfl) (Nat.le_of_ble_eq_true rfl) hbo ?_
            refine Rg.step 156 F_Arranger_addPoint_155 rfl (fun _ => rfl) ?_
            refine Rg.step 157 F_Arranger_addPoint_156 rfl (fun _ => rfl) ?_
            refine Rg.getf 160 F_Arranger_addPoint_157 rfl rF_13_68 gC_49 rfl ?_
            refine Rg.step 161 F_Arranger_addPoint_160 rfl (fun _ => rfl) ?_
            refine Rg.addI 162 F_Arranger_addPoint_161 rfl ?_
            refine Rg.put 165 F_Arranger_addPoint_162 rfl rF_13_68 gC_49 (by decide) (Nat.le_of_ble_eq_true rfl) (Or.inl rfl) rfl sO_arB ?_
            refine Rg.step 166 F_Arranger_addPoint_165 rfl (fun _ => rfl) ?_
            refine Rg.getf 169 F_Arranger_addPoint_166 rfl rF_13_21 gC_49 rfl ?_
            refine Rg.step 170 F_Arranger_addPoint_169 rfl (fun _ => rfl) ?_
            refine Rg.getf 173 F_Arranger_addPoint_170 rfl rF_13_64 gC_49 rfl ?_
            refine Rg.step 174 F_Arranger_addPoint_173 rfl (fun _ => rfl) ?_
            refine Rg.step 175 F_Arranger_addPoint_174 rfl (fun _ => rfl) ?_
            refine Rg.step 177 F_Arranger_addPoint_175 rfl (fun _ => rfl) ?_
            refine Rg.step 179 F_Arranger_addPoint_177 rfl (fun _ => rfl) ?_
            refine Rg.call 182 F_Arranger_addPoint_179 rfl (one_V rM_13_130 (by decide) (by simp) rfl rfl gC_49 rfl) (Nat.le_of_ble_eq_true rfl) (Cg.any hla) ?_
            refine Rg.ist 183 F_Arranger_addPoint_182 rfl gC_52 (by decide) sC_arL (by omega) (by decide) ?_
            refine Rg.step 184 F_Arranger_addPoint_183 rfl (fun _ => rfl) ?_
            refine Rg.getf 187 F_Arranger_addPoint_184 rfl rF_13_17 gC_49 rfl ?_
            refine Rg.step 188 F_Arranger_addPoint_187 rfl (fun _ => rfl) ?_
            refine Rg.getf 191 F_Arranger_addPoint_188 rfl rF_13_64 gC_49 rfl ?_
            refine Rg.step 192 F_Arranger_addPoint_191 rfl (fun _ => rfl) ?_
            refine Rg.ist 193 F_Arranger_addPoint_192 rfl gC_51 (by decide) sC_arR (by omega) (by decide) ?_
            refine Rg.step 194 F_Arranger_addPoint_193 rfl (fun _ => rfl) ?_
            refine Rg.step 195 F_Arranger_addPoint_194 rfl (fun _ => rfl) ?_
            refine Rg.getf 198 F_Arranger_addPoint_195 rfl rF_13_64 gC_49 rfl ?_
            refine Rg.step 199 F_Arranger_addPoint_198 rfl (fun _ => rfl) ?_
            refine Rg.addI 200 F_Arranger_addPoint_199 rfl ?_
            refine Rg.put 203 F_Arranger_addPoint_200 rfl rF_13_64 gC_49 (by decide) (Nat.le_of_ble_eq_true rfl) (Or.inl rfl) rfl sO_arP ?_
            refine Rg.step 204 F_Arranger_addPoint_203 rfl (fun _ => rfl) ?_
            refine Rg.step 206 F_Arranger_addPoint_204 rfl (fun _ => rfl) ?_
            refine Rg.put 209 F_Arranger_addPoint_206 rfl rF_13_71 gC_49 (by decide) (Nat.le_of_ble_eq_true rfl) (Or.inl rfl) rfl sO_arM ?_
            refine Rg.step 210 F_Arranger_addPoint_209 rfl (fun _ => rfl) ?_
            exact Rg.retI F_Arranger_addPoint_210 rfl rfl rfl
        · obtain ⟨l, hlat, hla⟩ := c_Ar_latest (d := d + 1) (s0 := s0) (s1 := s1) (rest := rest) (handN := handN) (handD := handD) (gT := gT) (gF := gF) (alE := alE) (alM := alM) (fiF := fiF) (fiN := fiN) (fiD := fiD) (epN := epN) (epD := epD) (goH := goH) (goN := goN) (goD := goD) (plS := plS) (plP := plP) (plM := plM) (plA := plA) (plBN := plBN) (plBD := plBD) (plLN := plLN) (plLD := plLD) (plR := plR) (veW := veW) (veF := veF) (veP := veP) (vsF := vsF) (vsN := vsN) (vsD := vsD) (juM := juM) (juP := juP) (juTN := juTN) (juTD := juTD) (juO := juO) (scN := scN) (scD := scD) (noF := noF) (noN := noN) (noD := noD) (neF := neF) (neN := neN) (neD := neD) (arB := arB) (arM := arM) (arU := arU) (arF := (-1)) (arR := arR) (arL := arL) (arT := arT) (arA := (up1 arA (r k / 2) (A (r k / 2)))) (arS := arS) (leN := leN) (leD := leD) (grN := grN) (grD := grD) (arH := arH) (arLU := arLU) (arGU := arGU) (shN := shN) (shD := shD) (stF := (up1 stF (k + 1) F2)) (stN := (up1 stN (k + 1) N2)) (stD := (up1 stD (k + 1) D2)) hw hO (k := k) (by omega) hRL (a := A (r k / 2)) (t := tmo (r k)) a1 (by omega)
          have hl : LI r (intP A needs needTime needHow needOf lastOf changes changeTime changeHow changeOf) (up1 arL k l) k := by
            unfold LI
            rw [up1_eq]
            rcases hlat with ⟨y1, y2⟩ | ⟨y1, y2, y3, y4⟩
            · refine Or.inl ⟨y1, fun j z1 z2 z => y2 j z1 z2 ?_⟩
              rw [hAL j z1 z2, i1 j z1 z2]
              exact z
            · refine Or.inr ⟨y1, y2, ?_, fun j z1 z2 z => y4 j z1 z2 ?_⟩
              · rw [hAL l y1 y2, i1 l y1 y2] at y3
                exact y3
              · rw [hAL j (by omega) z2, i1 j (by omega) z2]
                exact z
          refine ⟨0, k + 1, -1, arB, (fun i => arM i ↔ ¬ i = r k / 2), (up1 arR k (r k)), (up1 arL k l), (up1 arA (r k / 2) (A (r k / 2))), arS, leN, leD, grN, grD, arH, (up1 stF (k + 1) F2), (up1 stN (k + 1) N2), (up1 stD (k + 1) D2), Or.inr ⟨hf, Or.inr ⟨F2, N2, D2, rfl, wN2, Or.inr ⟨rfl, nobad, rfl, ?_⟩⟩⟩, ?_⟩
          · rw [if_neg ev]
            exact hai.fin hk.1 hR ev (S2 := (F2, N2, D2)) hl
          · refine Cg.of (Nat.le_of_ble_eq_true rfl) ?_
            change Rg _ _ _ _ 0 [(0, .ref 49), (1, .ref 6), (2, .int (iI (r k))), (3, .int (iI (A (r k / 2))))] [] _ _ _
            refine Rg.step 1 F_Arranger_addPoint_0 rfl (fun _ => rfl) ?_
            refine Rg.step 2 F_Arranger_addPoint_1 rfl (fun _ => rfl) ?_
            refine Rg.divIp 3 F_Arranger_addPoint_2 rfl (by omega) (by omega) ?_
            refine Rg.step 5 F_Arranger_addPoint_3 rfl (fun _ => rfl) ?_
            refine Rg.step 6 F_Arranger_addPoint_5 rfl (fun _ => rfl) ?_
            refine Rg.call 9 F_Arranger_addPoint_6 rfl (one_S (by decide +kernel) rM_13_96 (by decide) (by simp) rfl rfl) (Nat.le_of_ble_eq_true rfl) (Cg.any (c_PJ_timeOf (by omega))) ?_
            refine Rg.step 11 F_Arranger_addPoint_9 rfl (fun _ => rfl) ?_
            refine Rg.step 12 F_Arranger_addPoint_11 rfl (fun _ => rfl) ?_
            refine Rg.getf 15 F_Arranger_addPoint_12 rfl rF_13_100 gC_6 rfl ?_
            refine Rg.step 16 F_Arranger_addPoint_15 rfl (fun _ => rfl) ?_
            refine Rg.call 19 F_Arranger_addPoint_16 rfl (one_V rM_13_104 (by decide) (by simp) rfl rfl gC_7 rfl) (Nat.le_of_ble_eq_true rfl) (Cg.any (c_list_get hO wA a1.1 a1.2)) ?_
            refine Rg.cast 22 F_Arranger_addPoint_19 rfl rC_13_110 (actO m0) ?_
            refine Rg.step 24 F_Arranger_addPoint_22 rfl (fun _ => rfl) ?_
            refine Rg.step 25 F_Arranger_addPoint_24 rfl (fun _ => rfl) ?_
            refine Rg.getf 28 F_Arranger_addPoint_25 rfl rF_13_11 gC_49 rfl ?_
            refine Rg.step 29 F_Arranger_addPoint_28 rfl (fun _ => rfl) ?_
            refine Rg.getf 32 F_Arranger_addPoint_29 rfl rF_13_64 gC_49 rfl ?_
            refine Rg.aald 33 F_Arranger_addPoint_32 rfl gC_50 (ix_iI (by omega)) (gStates hk0) ?_
            refine Rg.step 35 F_Arranger_addPoint_33 rfl (fun _ => rfl) ?_
            refine Rg.step 36 F_Arranger_addPoint_35 rfl (fun _ => rfl) ?_
            refine Rg.getf 39 F_Arranger_addPoint_36 rfl rF_13_11 gC_49 rfl ?_
            refine Rg.step 40 F_Arranger_addPoint_39 rfl (fun _ => rfl) ?_
            refine Rg.getf 43 F_Arranger_addPoint_40 rfl rF_13_64 gC_49 rfl ?_
            refine Rg.step 44 F_Arranger_addPoint_43 rfl (fun _ => rfl) ?_
            refine Rg.addI 45 F_Arranger_addPoint_44 rfl ?_
            refine Rg.aald 46 F_Arranger_addPoint_45 rfl gC_50 (ix_iI (by omega)) (gStates hk1) ?_
            refine Rg.step 48 F_Arranger_addPoint_46 rfl (fun _ => rfl) ?_
            refine Rg.step 49 F_Arranger_addPoint_48 rfl (fun _ => rfl) ?_
            refine Rg.step 50 F_Arranger_addPoint_49 rfl (fun _ => rfl) ?_
            refine Rg.put 53 F_Arranger_addPoint_50 rfl rF_13_112 gC_49 (by decide) (Nat.le_of_ble_eq_true rfl) (Or.inl rfl) rfl sO_arF ?_
            refine Rg.step 55 F_Arranger_addPoint_53 rfl (fun _ => rfl) ?_
            refine Rg.step 57 F_Arranger_addPoint_55 rfl (fun _ => rfl) ?_
            refine Rg.step 59 F_Arranger_addPoint_57 rfl (fun _ => rfl) ?_
            refine Rg.call 62 F_Arranger_addPoint_59 rfl (one_V rM_13_115 (by decide) (by simp) rfl rfl (actO m1) rfl) (Nat.le_of_ble_eq_true rfl) (Cg.any (c_M_isMet (by omega) hw m1 a1 (gS_State hk0) (gF_st hk0) wN (by omega))) ?_
            refine Rg.ifneP 67 65 F_Arranger_addPoint_62 rfl rfl (fun _ => ?_) (fun h62 => absurd hf h62)
            refine Rg.step 69 F_Arranger_addPoint_67 rfl (fun _ => rfl) ?_
            refine Rg.step 71 F_Arranger_addPoint_69 rfl (fun _ => rfl) ?_
            refine Rg.call 74 F_Arranger_addPoint_71 rfl (one_V rM_13_60 (by decide) (by simp) rfl rfl (gS_State hk1) rfl) (Nat.le_of_ble_eq_true rfl) hcf ?_
            refine Rg.step 76 F_Arranger_addPoint_74 rfl (fun _ => rfl) ?_
            refine Rg.step 78 F_Arranger_addPoint_76 rfl (fun _ => rfl) ?_
            refine Rg.step 80 F_Arranger_addPoint_78 rfl (fun _ => rfl) ?_
            refine Rg.call 83 F_Arranger_addPoint_80 rfl (one_V rM_13_119 (by decide) (by simp) rfl rfl (actO m2) rfl) (Nat.le_of_ble_eq_true rfl) hch ?_
            refine Rg.ifneP 88 86 F_Arranger_addPoint_83 rfl rfl (fun _ => ?_) (fun h83 => absurd hY h83)
            refine Rg.step 89 F_Arranger_addPoint_88 rfl (fun _ => rfl) ?_
            refine Rg.getf 92 F_Arranger_addPoint_89 rfl rF_13_28 gC_49 rfl ?_
            refine Rg.step 94 F_Arranger_addPoint_92 rfl (fun _ => rfl) ?_
            refine Rg.step 95 F_Arranger_addPoint_94 rfl (fun _ => rfl) ?_
            refine Rg.ist 96 F_Arranger_addPoint_95 rfl gC_54 (by decide) sC_arA (by omega) (by decide) ?_
            refine Rg.step 97 F_Arranger_addPoint_96 rfl (fun _ => rfl) ?_
            refine Rg.getf 100 F_Arranger_addPoint_97 rfl rF_13_71 gC_49 rfl ?_
            refine Rg.step 101 F_Arranger_addPoint_100 rfl (fun _ => rfl) ?_
            refine Rg.step 103 F_Arranger_addPoint_101 rfl (fun _ => rfl) ?_
            refine Rg.shlK 104 F_Arranger_addPoint_103 rfl (by omega) ?_
            refine Rg.xorK 105 F_Arranger_addPoint_104 rfl ?_
            refine Rg.step 107 F_Arranger_addPoint_105 rfl (fun _ => rfl) ?_
            refine Rg.step 108 F_Arranger_addPoint_107 rfl (fun _ => rfl) ?_
            refine Rg.step 109 F_Arranger_addPoint_108 rfl (fun _ => rfl) ?_
            refine Rg.step 110 F_Arranger_addPoint_109 rfl (fun _ => rfl) ?_
            refine Rg.step 112 F_Arranger_addPoint_110 rfl (fun _ => rfl) ?_
            refine Rg.step 114 F_Arranger_addPoint_112 rfl (fun _ => rfl) ?_
            refine Rg.call 117 F_Arranger_addPoint_114 rfl (one_V rM_13_122 (by decide) (by simp) rfl rfl gC_49 rfl) (Nat.le_of_ble_eq_true rfl) (Cg.any c5) ?_
            refine Rg.put 120 F_Arranger_addPoint_117 rfl rF_13_112 gC_49 (by decide) (Nat.le_of_ble_eq_true rfl) (Or.inl rfl) rfl sO_arF ?_
            refine Rg.step 121 F_Arranger_addPoint_120 rfl (fun _ => rfl) ?_
            refine Rg.getf 124 F_Arranger_addPoint_121 rfl rF_13_112 gC_49 rfl ?_
            refine Rg.step 125 F_Arranger_addPoint_124 rfl (fun _ => rfl) ?_
            refine Rg.iceqI 130 128 F_Arranger_addPoint_125 rfl rfl (by omega) (by omega) (fun _ => ?_) (fun h125 => absurd rfl h125)
            refine Rg.step 132 F_Arranger_addPoint_130 rfl (fun _ => rfl) ?_
            refine Rg.ifneI 165 135 F_Arranger_addPoint_132 rfl rfl (by omega) (fun _ => ?_) (fun h132 => by omega)
            refine Rg.step 166 F_Arranger_addPoint_165 rfl (fun _ => rfl) ?_
            refine Rg.getf 169 F_Arranger_addPoint_166 rfl rF_13_21 gC_49 rfl ?_
            refine Rg.step 170 F_Arranger_addPoint_169 rfl (fun _ => rfl) ?_
            refine Rg.getf 173 F_Arranger_addPoint_170 rfl rF_13_64 gC_49 rfl ?_
            refine Rg.step 174 F_Arranger_addPoint_173 rfl (fun _ => rfl) ?_
            refine Rg.step 175 F_Arranger_addPoint_174 rfl (fun _ => rfl) ?_
            refine Rg.step 177 F_Arranger_addPoint_175 rfl (fun _ => rfl) ?_
            refine Rg.step 179 F_Arranger_addPoint_177 rfl (fun _ => rfl) ?_
            refine Rg.call 182 F_Arranger_addPoint_179 rfl (one_V rM_13_130 (by decide) (by simp) rfl rfl gC_49 rfl) (Nat.le_of_ble_eq_true rfl) (Cg.any hla) ?_
            refine Rg.ist 183 F_Arranger_addPoint_182 rfl gC_52 (by decide) sC_arL (by omega) (by decide) ?_
            refine Rg.step 184 F_Arranger_addPoint_183 rfl (fun _ => rfl) ?_
            refine Rg.getf 187 F_Arranger_addPoint_184 rfl rF_13_17 gC_49 rfl ?_
            refine Rg.step 188 F_Arranger_addPoint_187 rfl (fun _ => rfl) ?_
            refine Rg.getf 191 F_Arranger_addPoint_188 rfl rF_13_64 gC_49 rfl ?_
            refine Rg.step 192 F_Arranger_addPoint_191 rfl (fun _ => rfl) ?_
            refine Rg.ist 193 F_Arranger_addPoint_192 rfl gC_51 (by decide) sC_arR (by omega) (by decide) ?_
            refine Rg.step 194 F_Arranger_addPoint_193 rfl (fun _ => rfl) ?_
            refine Rg.step 195 F_Arranger_addPoint_194 rfl (fun _ => rfl) ?_
            refine Rg.getf 198 F_Arranger_addPoint_195 rfl rF_13_64 gC_49 rfl ?_
            refine Rg.step 199 F_Arranger_addPoint_198 rfl (fun _ => rfl) ?_
            refine Rg.addI 200 F_Arranger_addPoint_199 rfl ?_
            refine Rg.put 203 F_Arranger_addPoint_200 rfl rF_13_64 gC_49 (by decide) (Nat.le_of_ble_eq_true rfl) (Or.inl rfl) rfl sO_arP ?_
            refine Rg.step 204 F_Arranger_addPoint_203 rfl (fun _ => rfl) ?_
            refine Rg.step 206 F_Arranger_addPoint_204 rfl (fun _ => rfl) ?_
            refine Rg.put 209 F_Arranger_addPoint_206 rfl rF_13_71 gC_49 (by decide) (Nat.le_of_ble_eq_true rfl) (Or.inl rfl) rfl sO_arM ?_
            refine Rg.step 210 F_Arranger_addPoint_209 rfl (fun _ => rfl) ?_
            exact Rg.retI F_Arranger_addPoint_210 rfl rfl rfl
      · subst s5
        refine ⟨5, k, 2 * s, arB, arM, arR, arL, (up1 arA (r k / 2) (A (r k / 2))), arS, leN, leD, grN, grD, arH, (up1 stF (k + 1) F2), (up1 stN (k + 1) N2), (up1 stD (k + 1) D2), Or.inr ⟨hf, Or.inr ⟨F2, N2, D2, rfl, wN2, Or.inl ⟨rfl, s, rfl, s1, s2, (hbad s s1 s2).mp s3, fun j z1 z2 z => s4 j z1 z2 ((hbad j z1 (by omega)).mpr z), rfl, hai.behind hself, up1_eq _ _ _, up1_eq _ _ _, up1_eq _ _ _⟩⟩⟩, ?_⟩
        refine Cg.of (Nat.le_of_ble_eq_true rfl) ?_
        change Rg _ _ _ _ 0 [(0, .ref 49), (1, .ref 6), (2, .int (iI (r k))), (3, .int (iI (A (r k / 2))))] [] _ _ _
        refine Rg.step 1 F_Arranger_addPoint_0 rfl (fun _ => rfl) ?_
        refine Rg.step 2 F_Arranger_addPoint_1 rfl (fun _ => rfl) ?_
        refine Rg.divIp 3 F_Arranger_addPoint_2 rfl (by omega) (by omega) ?_
        refine Rg.step 5 F_Arranger_addPoint_3 rfl (fun _ => rfl) ?_
        refine Rg.step 6 F_Arranger_addPoint_5 rfl (fun _ => rfl) ?_
        refine Rg.call 9 F_Arranger_addPoint_6 rfl (one_S (by decide +kernel) rM_13_96 (by decide) (by simp) rfl rfl) (Nat.le_of_ble_eq_true rfl) (Cg.any (c_PJ_timeOf (by omega))) ?_
        refine Rg.step 11 F_Arranger_addPoint_9 rfl (fun _ => rfl) ?_
        refine Rg.step 12 F_Arranger_addPoint_11 rfl (fun _ => rfl) ?_
        refine Rg.getf 15 F_Arranger_addPoint_12 rfl rF_13_100 gC_6 rfl ?_
        refine Rg.step 16 F_Arranger_addPoint_15 rfl (fun _ => rfl) ?_
        refine Rg.call 19 F_Arranger_addPoint_16 rfl (one_V rM_13_104 (by decide) (by simp) rfl rfl gC_7 rfl) (Nat.le_of_ble_eq_true rfl) (Cg.any (c_list_get hO wA a1.1 a1.2)) ?_
        refine Rg.cast 22 F_Arranger_addPoint_19 rfl rC_13_110 (actO m0) ?_
        refine Rg.step 24 F_Arranger_addPoint_22 rfl (fun _ => rfl) ?_
        refine Rg.step 25 F_Arranger_addPoint_24 rfl (fun _ => rfl) ?_
        refine Rg.getf 28 F_Arranger_addPoint_25 rfl rF_13_11 gC_49 rfl ?_
        refine Rg.step 29 F_Arranger_addPoint_28 rfl (fun _ => rfl) ?_
        refine Rg.getf 32 F_Arranger_addPoint_29 rfl rF_13_64 gC_49 rfl ?_
        refine Rg.aald 33 F_Arranger_addPoint_32 rfl gC_50 (ix_iI (by omega)) (gStates hk0) ?_
        refine Rg.step 35 F_Arranger_addPoint_33 rfl (fun _ => rfl) ?_
        refine Rg.step 36 F_Arranger_addPoint_35 rfl (fun _ => rfl) ?_
        refine Rg.getf 39 F_Arranger_addPoint_36 rfl rF_13_11 gC_49 rfl ?_
        refine Rg.step 40 F_Arranger_addPoint_39 rfl (fun _ => rfl) ?_
        refine Rg.getf 43 F_Arranger_addPoint_40 rfl rF_13_64 gC_49 rfl ?_
        refine Rg.step 44 F_Arranger_addPoint_43 rfl (fun _ => rfl) ?_
        refine Rg.addI 45 F_Arranger_addPoint_44 rfl ?_
        refine Rg.aald 46 F_Arranger_addPoint_45 rfl gC_50 (ix_iI (by omega)) (gStates hk1) ?_
        refine Rg.step 48 F_Arranger_addPoint_46 rfl (fun _ => rfl) ?_
        refine Rg.step 49 F_Arranger_addPoint_48 rfl (fun _ => rfl) ?_
        refine Rg.step 50 F_Arranger_addPoint_49 rfl (fun _ => rfl) ?_
        refine Rg.put 53 F_Arranger_addPoint_50 rfl rF_13_112 gC_49 (by decide) (Nat.le_of_ble_eq_true rfl) (Or.inl rfl) rfl sO_arF ?_
        refine Rg.step 55 F_Arranger_addPoint_53 rfl (fun _ => rfl) ?_
        refine Rg.step 57 F_Arranger_addPoint_55 rfl (fun _ => rfl) ?_
        refine Rg.step 59 F_Arranger_addPoint_57 rfl (fun _ => rfl) ?_
        refine Rg.call 62 F_Arranger_addPoint_59 rfl (one_V rM_13_115 (by decide) (by simp) rfl rfl (actO m1) rfl) (Nat.le_of_ble_eq_true rfl) (Cg.any (c_M_isMet (by omega) hw m1 a1 (gS_State hk0) (gF_st hk0) wN (by omega))) ?_
        refine Rg.ifneP 67 65 F_Arranger_addPoint_62 rfl rfl (fun _ => ?_) (fun h62 => absurd hf h62)
        refine Rg.step 69 F_Arranger_addPoint_67 rfl (fun _ => rfl) ?_
        refine Rg.step 71 F_Arranger_addPoint_69 rfl (fun _ => rfl) ?_
        refine Rg.call 74 F_Arranger_addPoint_71 rfl (one_V rM_13_60 (by decide) (by simp) rfl rfl (gS_State hk1) rfl) (Nat.le_of_ble_eq_true rfl) hcf ?_
        refine Rg.step 76 F_Arranger_addPoint_74 rfl (fun _ => rfl) ?_
        refine Rg.step 78 F_Arranger_addPoint_76 rfl (fun _ => rfl) ?_
        refine Rg.step 80 F_Arranger_addPoint_78 rfl (fun _ => rfl) ?_
        refine Rg.call 83 F_Arranger_addPoint_80 rfl (one_V rM_13_119 (by decide) (by simp) rfl rfl (actO m2) rfl) (Nat.le_of_ble_eq_true rfl) hch ?_
        refine Rg.ifneP 88 86 F_Arranger_addPoint_83 rfl rfl (fun _ => ?_) (fun h83 => absurd hY h83)
        refine Rg.step 89 F_Arranger_addPoint_88 rfl (fun _ => rfl) ?_
        refine Rg.getf 92 F_Arranger_addPoint_89 rfl rF_13_28 gC_49 rfl ?_
        refine Rg.step 94 F_Arranger_addPoint_92 rfl (fun _ => rfl) ?_
        refine Rg.step 95 F_Arranger_addPoint_94 rfl (fun _ => rfl) ?_
        refine Rg.ist 96 F_Arranger_addPoint_95 rfl gC_54 (by decide) sC_arA (by omega) (by decide) ?_
        refine Rg.step 97 F_Arranger_addPoint_96 rfl (fun _ => rfl) ?_
        refine Rg.getf 100 F_Arranger_addPoint_97 rfl rF_13_71 gC_49 rfl ?_
        refine Rg.step 101 F_Arranger_addPoint_100 rfl (fun _ => rfl) ?_
        refine Rg.step 103 F_Arranger_addPoint_101 rfl (fun _ => rfl) ?_
        refine Rg.shlK 104 F_Arranger_addPoint_103 rfl (by omega) ?_
        refine Rg.xorK 105 F_Arranger_addPoint_104 rfl ?_
        refine Rg.step 107 F_Arranger_addPoint_105 rfl (fun _ => rfl) ?_
        refine Rg.step 108 F_Arranger_addPoint_107 rfl (fun _ => rfl) ?_
        refine Rg.step 109 F_Arranger_addPoint_108 rfl (fun _ => rfl) ?_
        refine Rg.step 110 F_Arranger_addPoint_109 rfl (fun _ => rfl) ?_
        refine Rg.step 112 F_Arranger_addPoint_110 rfl (fun _ => rfl) ?_
        refine Rg.step 114 F_Arranger_addPoint_112 rfl (fun _ => rfl) ?_
        refine Rg.call 117 F_Arranger_addPoint_114 rfl (one_V rM_13_122 (by decide) (by simp) rfl rfl gC_49 rfl) (Nat.le_of_ble_eq_true rfl) (Cg.any c5) ?_
        refine Rg.put 120 F_Arranger_addPoint_117 rfl rF_13_112 gC_49 (by decide) (Nat.le_of_ble_eq_true rfl) (Or.inl rfl) rfl sO_arF ?_
        refine Rg.step 121 F_Arranger_addPoint_120 rfl (fun _ => rfl) ?_
        refine Rg.getf 124 F_Arranger_addPoint_121 rfl rF_13_112 gC_49 rfl ?_
        refine Rg.step 125 F_Arranger_addPoint_124 rfl (fun _ => rfl) ?_
        refine Rg.iceqI 130 128 F_Arranger_addPoint_125 rfl rfl (by omega) (by omega) (fun h125 => by omega) (fun _ => ?_)
        refine Rg.step 129 F_Arranger_addPoint_128 rfl (fun _ => rfl) ?_
        exact Rg.retI F_Arranger_addPoint_129 rfl rfl rfl
  · refine ⟨2, k, r k, arB, arM, arR, arL, arA, arS, leN, leD, grN, grD, arH, stF, stN, stD, Or.inl ⟨rfl, hf, rfl, rfl, hai⟩, ?_⟩
    refine Cg.of (Nat.le_of_ble_eq_true rfl) ?_
    change Rg _ _ _ _ 0 [(0, .ref 49), (1, .ref 6), (2, .int (iI (r k))), (3, .int (iI (A (r k / 2))))] [] _ _ _
    refine Rg.step 1 F_Arranger_addPoint_0 rfl (fun _ => rfl) ?_
    refine Rg.step 2 F_Arranger_addPoint_1 rfl (fun _ => rfl) ?_
    refine Rg.divIp 3 F_Arranger_addPoint_2 rfl (by omega) (by omega) ?_
    refine Rg.step 5 F_Arranger_addPoint_3 rfl (fun _ => rfl) ?_
    refine Rg.step 6 F_Arranger_addPoint_5 rfl (fun _ => rfl) ?_
    refine Rg.call 9 F_Arranger_addPoint_6 rfl (one_S (by decide +kernel) rM_13_96 (by decide) (by simp) rfl rfl) (Nat.le_of_ble_eq_true rfl) (Cg.any (c_PJ_timeOf (by omega))) ?_
    refine Rg.step 11 F_Arranger_addPoint_9 rfl (fun _ => rfl) ?_
    refine Rg.step 12 F_Arranger_addPoint_11 rfl (fun _ => rfl) ?_
    refine Rg.getf 15 F_Arranger_addPoint_12 rfl rF_13_100 gC_6 rfl ?_
    refine Rg.step 16 F_Arranger_addPoint_15 rfl (fun _ => rfl) ?_
    refine Rg.call 19 F_Arranger_addPoint_16 rfl (one_V rM_13_104 (by decide) (by simp) rfl rfl gC_7 rfl) (Nat.le_of_ble_eq_true rfl) (Cg.any (c_list_get hO wA a1.1 a1.2)) ?_
    refine Rg.cast 22 F_Arranger_addPoint_19 rfl rC_13_110 (actO m0) ?_
    refine Rg.step 24 F_Arranger_addPoint_22 rfl (fun _ => rfl) ?_
    refine Rg.step 25 F_Arranger_addPoint_24 rfl (fun _ => rfl) ?_
    refine Rg.getf 28 F_Arranger_addPoint_25 rfl rF_13_11 gC_49 rfl ?_
    refine Rg.step 29 F_Arranger_addPoint_28 rfl (fun _ => rfl) ?_
    refine Rg.getf 32 F_Arranger_addPoint_29 rfl rF_13_64 gC_49 rfl ?_
    refine Rg.aald 33 F_Arranger_addPoint_32 rfl gC_50 (ix_iI (by omega)) (gStates hk0) ?_
    refine Rg.step 35 F_Arranger_addPoint_33 rfl (fun _ => rfl) ?_
    refine Rg.step 36 F_Arranger_addPoint_35 rfl (fun _ => rfl) ?_
    refine Rg.getf 39 F_Arranger_addPoint_36 rfl rF_13_11 gC_49 rfl ?_
    refine Rg.step 40 F_Arranger_addPoint_39 rfl (fun _ => rfl) ?_
    refine Rg.getf 43 F_Arranger_addPoint_40 rfl rF_13_64 gC_49 rfl ?_
    refine Rg.step 44 F_Arranger_addPoint_43 rfl (fun _ => rfl) ?_
    refine Rg.addI 45 F_Arranger_addPoint_44 rfl ?_
    refine Rg.aald 46 F_Arranger_addPoint_45 rfl gC_50 (ix_iI (by omega)) (gStates hk1) ?_
    refine Rg.step 48 F_Arranger_addPoint_46 rfl (fun _ => rfl) ?_
    refine Rg.step 49 F_Arranger_addPoint_48 rfl (fun _ => rfl) ?_
    refine Rg.step 50 F_Arranger_addPoint_49 rfl (fun _ => rfl) ?_
    refine Rg.put 53 F_Arranger_addPoint_50 rfl rF_13_112 gC_49 (by decide) (Nat.le_of_ble_eq_true rfl) (Or.inl rfl) rfl sO_arF ?_
    refine Rg.step 55 F_Arranger_addPoint_53 rfl (fun _ => rfl) ?_
    refine Rg.step 57 F_Arranger_addPoint_55 rfl (fun _ => rfl) ?_
    refine Rg.step 59 F_Arranger_addPoint_57 rfl (fun _ => rfl) ?_
    refine Rg.call 62 F_Arranger_addPoint_59 rfl (one_V rM_13_115 (by decide) (by simp) rfl rfl (actO m1) rfl) (Nat.le_of_ble_eq_true rfl) (Cg.any (c_M_isMet (by omega) hw m1 a1 (gS_State hk0) (gF_st hk0) wN (by omega))) ?_
    refine Rg.ifneP 67 65 F_Arranger_addPoint_62 rfl rfl (fun h62 => absurd h62 hf) (fun _ => ?_)
    refine Rg.step 66 F_Arranger_addPoint_65 rfl (fun _ => rfl) ?_
    exact Rg.retI F_Arranger_addPoint_66 rfl rfl rfl
end R74
