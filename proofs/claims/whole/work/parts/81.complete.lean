/-! The class: seeking, against the rows of events. -/
theorem evS_ext {acts : Int} {ev : Int → Int} : ∀ (n : Nat) (k : Int) (m R : Int) (A T : Int → Int) (m1 R1 : Int) (A1 T1 : Int → Int), evS acts ev n k (m, R, A, T) = some (m1, R1, A1, T1) → m ≤ m1 ∧ R1 = R + n ∧ (∀ s, s < m → A1 s = A s) ∧ (∀ i, i < R → T1 i = T i) ∧ 2 * m - R - n ≤ 2 * m1 - R1 := by
  intro n
  induction n with
  | zero =>
    intro k m R A T m1 R1 A1 T1 h
    rw [evS] at h
    cases h
    exact ⟨Int.le_refl _, by simp, fun _ _ => rfl, fun _ _ => rfl, by simp⟩
  | succ n ih =>
    intro k m R A T m1 R1 A1 T1 h
    rw [evS_s] at h
    split at h
    · split at h
      · obtain ⟨h1, h2, h3, h4, h5⟩ := ih _ _ _ _ _ _ _ _ _ h
        refine ⟨by omega, by omega, fun s z => ?_, fun i z => ?_, by omega⟩
        · rw [h3 s (by omega), up1_ne _ _ (by omega)]
        · rw [h4 i (by omega), up1_ne _ _ (by omega)]
      · cases h
    · split at h
      · obtain ⟨h1, h2, h3, h4, h5⟩ := ih _ _ _ _ _ _ _ _ _ h
        refine ⟨h1, by omega, h3, fun i z => ?_, by omega⟩
        rw [h4 i (by omega), up1_ne _ _ (by omega)]
      · cases h
section PRE
variable {FA : NS → Int → Int → Prop} {CA : NS → Int → Int → Option NS} {BA : NS → Int → NB} {GO : NS → Prop} {IA : Int → Int → Int → Int → Prop} {eN eD : Int} {S0 : NS} {acts : Int}
/-- so far the row has no fault -/
def PreOK (FA : NS → Int → Int → Prop) (CA : NS → Int → Int → Option NS) (BA : NS → Int → NB) (S0 : NS) (A T : Int → Int) (a : Int) (σ : Int → NS) (β : Int → Int → NB) : Prop := σ 0 = S0 ∧ β 0 = (fun _ => (0, 0, 0, 0)) ∧ ∀ i, 0 ≤ i → i < a → FA (σ i) (A (T i / 2)) (tmo (T i)) ∧ CA (σ i) (A (T i / 2)) (tmo (T i)) = some (σ (i + 1)) ∧ (∀ s, 0 ≤ s → ¬ (grp T 0 (i + 1) (2 * s) ∧ ¬ grp T 0 (i + 1) (2 * s + 1) ∧ ¬ FA (σ (i + 1)) (A s) 1)) ∧ β (i + 1) = (if T i % 2 = 0 then up1 (β i) (T i / 2) (BA (σ i) (A (T i / 2))) else β i)
theorem grp_c {T T1 : Int → Int} {k p : Int} (h : ∀ i, 0 ≤ i → i < k → T1 i = T i) : grp T1 0 k p ↔ grp T 0 k p := by
  constructor
  · rintro ⟨i, i1, i2, i3⟩
    exact ⟨i, i1, i2, by rw [← h i i1 i2]; exact i3⟩
  · rintro ⟨i, i1, i2, i3⟩
    exact ⟨i, i1, i2, by rw [h i i1 i2]; exact i3⟩
theorem PreOK.ext {A T A1 T1 : Int → Int} {a : Int} {σ : Int → NS} {β : Int → Int → NB} (h : PreOK FA CA BA S0 A T a σ β) (hT : ∀ i, 0 ≤ i → i < a → T1 i = T i) (hb : ∀ i, 0 ≤ i → i < a → A1 (T i / 2) = A (T i / 2)) (hA : ∀ s, grp T 0 a (2 * s) → A1 s = A s) : PreOK FA CA BA S0 A1 T1 a σ β := by
  refine ⟨h.1, h.2.1, fun i z1 z2 => ?_⟩
  obtain ⟨h1, h2, h3, h4⟩ := h.2.2 i z1 z2
  rw [hT i z1 z2, hb i z1 z2]
  refine ⟨h1, h2, fun s z3 ⟨y1, y2, y3⟩ => ?_, h4⟩
  rw [grp_c (fun j w1 w2 => hT j w1 (by omega))] at y1 y2
  obtain ⟨j, j1, j2, j3⟩ := id y1
  rw [hA s ⟨j, j1, by omega, j3⟩] at y3
  exact h3 s z3 ⟨y1, y2, y3⟩
theorem walk_back {A T : Int → Int} {m a : Int} {σ : Int → NS} {β : Int → Int → NB} (h : PreOK FA CA BA S0 A T a σ β) {n : Nat} {why pt : Int} {S1 : NS} {B1 : Int → NB} (hW : WalkR m T (fun S s t => FA S (A s) t) (fun S p => CA S (A (p / 2)) (tmo p)) (fun S s => BA S (A s)) GO n a (grp T 0 a) (σ a) (β a) why pt S1 B1) : ∀ (j : Nat) (i : Int), i + j = a → 0 ≤ i → WalkR m T (fun S s t => FA S (A s) t) (fun S p => CA S (A (p / 2)) (tmo p)) (fun S s => BA S (A s)) GO (n + j) i (grp T 0 i) (σ i) (β i) why pt S1 B1 := by
  intro j
  induction j with
  | zero =>
    intro i hi _
    have e : i = a := by omega
    rw [e]
    exact hW
  | succ j ih =>
    intro i hi h0
    obtain ⟨h1, h2, h3, h4⟩ := h.2.2 i h0 (by omega)
    have h5 := ih (i + 1) (by omega) (by omega)
    refine Or.inr ⟨h1, Or.inr ⟨σ (i + 1), h2, Or.inr ⟨fun r z1 _ => ?_, ?_⟩⟩⟩
    · rw [grp_up h0]
      exact h3 r z1
    · rw [grp_up h0, ← h4]
      exact h5
theorem PreOK.step {A T : Int → Int} {a : Int} {σ : Int → NS} {β : Int → Int → NB} (h : PreOK FA CA BA S0 A T a σ β) (ha : 0 ≤ a) {S2 : NS} (h1 : FA (σ a) (A (T a / 2)) (tmo (T a))) (h2 : CA (σ a) (A (T a / 2)) (tmo (T a)) = some S2) (h3 : ∀ s, 0 ≤ s → ¬ (grp T 0 (a + 1) (2 * s) ∧ ¬ grp T 0 (a + 1) (2 * s + 1) ∧ ¬ FA S2 (A s) 1)) : PreOK FA CA BA S0 A T (a + 1) (up1 σ (a + 1) S2) (up1 β (a + 1) (if T a % 2 = 0 then up1 (β a) (T a / 2) (BA (σ a) (A (T a / 2))) else β a)) := by
  refine ⟨by rw [up1_ne _ _ (by omega)]; exact h.1, by rw [up1_ne _ _ (by omega)]; exact h.2.1, fun i z1 z2 => ?_⟩
  by_cases e : i = a
  · subst e
    rw [up1_eq, up1_eq, up1_ne _ _ (by omega), up1_ne _ _ (by omega)]
    exact ⟨h1, h2, h3, rfl⟩
  · rw [up1_ne _ _ (by omega), up1_ne _ _ (by omega), up1_ne _ _ (by omega), up1_ne _ _ (by omega)]
    exact h.2.2 i z1 (by omega)
theorem grp_00 (T : Int → Int) : grp T 0 0 = (fun _ => False) := funext (fun p => propext ⟨fun ⟨i, i1, i2, _⟩ => by omega, False.elim⟩)
theorem walk_all {A T : Int → Int} {m a : Int} (ha : 0 ≤ a) {σ : Int → NS} {β : Int → Int → NB} (h : PreOK FA CA BA S0 A T a σ β) {n : Nat} {why pt : Int} {S1 : NS} {B1 : Int → NB} (hW : WalkR m T (fun S s t => FA S (A s) t) (fun S p => CA S (A (p / 2)) (tmo p)) (fun S s => BA S (A s)) GO n a (grp T 0 a) (σ a) (β a) why pt S1 B1) : WalkR m T (fun S s t => FA S (A s) t) (fun S p => CA S (A (p / 2)) (tmo p)) (fun S s => BA S (A s)) GO (n + a.toNat) 0 (fun _ => False) S0 (fun _ => (0, 0, 0, 0)) why pt S1 B1 := by
  have := walk_back h hW a.toNat 0 (by omega) (by omega)
  rw [grp_00, h.1, h.2.1] at this
  exact this
/-- a row of events that is open for too long -/
theorem good_open {ev ev1 : Int → Int} {a n : Nat} {m R : Int} {A T : Int → Int} (h : evS acts ev a 0 (0, 0, fun _ => 0, fun _ => 0) = some (m, R, A, T)) (hag : ∀ i, 0 ≤ i → i < (a : Int) → ev1 i = ev i) (ho : 0 < 2 * m - R - n) : ¬ GoodE acts FA CA BA GO IA eN eD S0 (a + n) ev1 := by
  rintro ⟨m1, R1, A1, T1, pt, S1, u, t, h1, h2, -⟩
  rw [evS_add] at h1
  rcases evS_E (acts := acts) (ev := ev) (ev1 := ev1) a 0 (0, 0, fun _ => 0, fun _ => 0) (0, 0, fun _ => 0, fun _ => 0) (fun i z1 z2 => hag i z1 (by omega)) ⟨rfl, rfl, fun _ _ _ => rfl, fun _ _ _ => rfl⟩ with ⟨x, y⟩ | ⟨x, y, e1, e2, e3⟩
  · rw [x] at h1; cases h1
  · rw [e1, Option.bind_some] at h1
    rw [h] at e2
    cases e2
    obtain ⟨xm, xR, xA, xT⟩ := x
    obtain ⟨q1, q2, -⟩ := e3
    dsimp only at q1 q2
    subst q1 q2
    have := (evS_ext _ _ _ _ _ _ _ _ _ _ h1).2.2.2.2
    omega
/-- a fault cannot be mended -/
theorem good_fault {ev ev1 : Int → Int} {a n : Nat} {m : Int} {A T : Int → Int} {σ : Int → NS} {β : Int → Int → NB} (h : evS acts ev (a + 1) 0 (0, 0, fun _ => 0, fun _ => 0) = some (m, (a : Int) + 1, A, T)) (hev : ∀ i, 0 ≤ i → i < (a : Int) + 1 → 0 ≤ ev i) (hag : ∀ i, 0 ≤ i → i < (a : Int) + 1 → ev1 i = ev i) (hp : PreOK FA CA BA S0 A T a σ β) (hst : ∀ i, 0 ≤ i → i < (a : Int) + 1 → T i / 2 < m) (hf : ¬ FA (σ a) (A (T a / 2)) (tmo (T a)) ∨ (FA (σ a) (A (T a / 2)) (tmo (T a)) ∧ (CA (σ a) (A (T a / 2)) (tmo (T a)) = none ∨ ∃ S2, CA (σ a) (A (T a / 2)) (tmo (T a)) = some S2 ∧ ∃ q, 0 ≤ q ∧ q < m ∧ (grp T 0 (a + 1) (2 * q) ∧ ¬ grp T 0 (a + 1) (2 * q + 1) ∧ ¬ FA S2 (A q) 1) ∧ ∀ j, 0 ≤ j → j < q → ¬ (grp T 0 (a + 1) (2 * j) ∧ ¬ grp T 0 (a + 1) (2 * j + 1) ∧ ¬ FA S2 (A j) 1)))) : ¬ GoodE acts FA CA BA GO IA eN eD S0 (a + 1 + n) ev1 := by
  rintro ⟨m1, R1, A1, T1, pt, S1, u, t, h1, h2, why0, B1, hW, hres⟩
  have hw0 : why0 = 0 := by
    rcases hres with ⟨z1, z2⟩ | ⟨z1, _⟩ <;> omega
  subst hw0
  have h1' := h1
  rw [evS_add] at h1
  rcases evS_E (acts := acts) (ev := ev) (ev1 := ev1) (a + 1) 0 (0, 0, fun _ => 0, fun _ => 0) (0, 0, fun _ => 0, fun _ => 0) (fun i z1 z2 => hag i z1 (by omega)) ⟨rfl, rfl, fun _ _ _ => rfl, fun _ _ _ => rfl⟩ with ⟨x, y⟩ | ⟨x, y, e1, e2, e3⟩
  · rw [x] at h1; cases h1
  · rw [e1, Option.bind_some] at h1
    rw [h] at e2
    cases e2
    obtain ⟨xm, xR, xA, xT⟩ := x
    obtain ⟨q1, q2, q3, q4⟩ := e3
    dsimp only at q1 q2 q3 q4
    subst q1 q2
    obtain ⟨g1, g2, g3, g4, -⟩ := evS_ext _ _ _ _ _ _ _ _ _ _ h1
    have hw := evS_W (a + 1) 0 _ _ (fun i z1 z2 => hev i z1 (by omega)) (EvW0 _ _ _) h
    obtain ⟨w1, w2, w3, w4, w5⟩ := hw
    dsimp only at w1 w2 w3 w4 w5
    have hTT : ∀ i, 0 ≤ i → i < (a : Int) + 1 → T1 i = T i := fun i z1 z2 => by rw [g4 i z2, q4 i z1 z2]
    have hAA : ∀ s, 0 ≤ s → s < xm → A1 s = A s := fun s z1 z2 => by rw [g3 s z2, q3 s z1 z2]
    have hp1 : PreOK FA CA BA S0 A1 T1 a σ β := hp.ext (fun i z1 z2 => hTT i z1 (by omega)) (fun i z1 z2 => hAA _ (by have := w4 i z1 (by omega); omega) (hst i z1 (by omega))) (fun s ⟨i, i1, i2, i3⟩ => hAA s (by have := w4 i i1 (by omega); omega) (by have := hst i i1 (by omega); omega))
    have hTa := hTT a (by omega) (by omega)
    have hAa : A1 (T a / 2) = A (T a / 2) := hAA _ (by have := w4 a (by omega) (by omega); omega) (hst a (by omega) (by omega))
    have key : ∃ w p S9 B9, w ≠ 0 ∧ WalkR m1 T1 (fun S s t => FA S (A1 s) t) (fun S p => CA S (A1 (p / 2)) (tmo p)) (fun S s => BA S (A1 s)) GO (n + 1) a (grp T1 0 a) (σ a) (β a) w p S9 B9 := by
      rcases hf with hf | ⟨hf, hc | ⟨S2, hc, q, y1, y2, y3, y4⟩⟩
      · exact ⟨2, T1 a, σ a, β a, by omega, Or.inl ⟨by dsimp only; rw [hTa, hAa]; exact hf, rfl, rfl, rfl⟩⟩
      · exact ⟨4, T1 a, σ a, β a, by omega, Or.inr ⟨by dsimp only; rw [hTa, hAa]; exact hf, Or.inl ⟨by dsimp only; rw [hTa, hAa]; exact hc, rfl, rfl, rfl⟩⟩⟩
      · have hgc : ∀ p, grp T1 0 ((a : Int) + 1) p ↔ grp T 0 ((a : Int) + 1) p := fun p => grp_c hTT
        have hbad : ∀ s, 0 ≤ s → s < xm → (badS (fun S s t => FA S (A1 s) t) (grp T1 0 ((a : Int) + 1)) S2 s ↔ (grp T 0 (a + 1) (2 * s) ∧ ¬ grp T 0 (a + 1) (2 * s + 1) ∧ ¬ FA S2 (A s) 1)) := fun s z1 z2 => by
          unfold badS
          dsimp only
          rw [hgc, hgc, hAA s z1 z2]
        refine ⟨5, 2 * q, S2, β a, by omega, Or.inr ⟨by dsimp only; rw [hTa, hAa]; exact hf, Or.inr ⟨S2, by dsimp only; rw [hTa, hAa]; exact hc, Or.inl ⟨q, rfl, y1, by omega, ?_, fun r z1 z2 => ?_, rfl, rfl⟩⟩⟩⟩
        · rw [grp_up (by omega)]
          exact (hbad q y1 y2).mpr y3
        · rw [grp_up (by omega)]
          exact fun z => y4 r z1 z2 ((hbad r z1 (by omega)).mp z)
    obtain ⟨w, p, S9, B9, hw9, hW9⟩ := key
    have hall := walk_all (by omega) hp1 hW9
    rw [show n + 1 + (a : Int).toNat = R1.toNat by omega] at hall
    exact hw9 (WalkR_det _ _ _ _ _ _ _ _ _ _ _ _ _ hall hW).1
/-- the whole row -/
theorem late_arr {A T : Int → Int} {m a V u1 : Int} {t : Int → Int} (ha : 0 ≤ a) {σ : Int → NS} {β : Int → Int → NB} (hp : PreOK FA CA BA S0 A T a σ β) (h : (V = 6 ∧ ¬ GO (σ a)) ∨ (GO (σ a) ∧ ((V = 8 ∧ unitA eN eD m (fun s => (β a s).1) (fun s => (β a s).2.1) (fun s => (β a s).2.2.1) (fun s => (β a s).2.2.2) = none) ∨ (∃ u0, unitA eN eD m (fun s => (β a s).1) (fun s => (β a s).2.1) (fun s => (β a s).2.2.1) (fun s => (β a s).2.2.2) = some u0 ∧ ((V = 7 ∧ ¬ ∃ w, SolB m a T (fun p q => IA (A (p / 2)) (tmo p) (A (q / 2)) (tmo q)) eN eD u0 (fun s => (β a s).1) (fun s => (β a s).2.1) (fun s => (β a s).2.2.1) (fun s => (β a s).2.2.2) w) ∨ (V = 0 ∧ u1 = u0 ∧ SolB m a T (fun p q => IA (A (p / 2)) (tmo p) (A (q / 2)) (tmo q)) eN eD u0 (fun s => (β a s).1) (fun s => (β a s).2.1) (fun s => (β a s).2.2.1) (fun s => (β a s).2.2.2) t ∧ ∀ w, SolB m a T (fun p q => IA (A (p / 2)) (tmo p) (A (q / 2)) (tmo q)) eN eD u0 (fun s => (β a s).1) (fun s => (β a s).2.1) (fun s => (β a s).2.2.1) (fun s => (β a s).2.2.2) w → ∀ p, 0 ≤ p → p < 2 * m → t p ≤ w p)))))) : ArrA m a T A FA CA BA GO IA eN eD S0 V (-1) (σ a) u1 t := by
  have hb : ∀ (w : Int), ((GO (σ a) ∧ w = 0) ∨ (¬ GO (σ a) ∧ w = 6)) → WalkR m T (fun S s t => FA S (A s) t) (fun S p => CA S (A (p / 2)) (tmo p)) (fun S s => BA S (A s)) GO a.toNat 0 (fun _ => False) S0 (fun _ => (0, 0, 0, 0)) w (-1) (σ a) (β a) := fun w hw => by
    have := walk_all (m := m) (GO := GO) (n := 0) (why := w) (pt := -1) (S1 := σ a) (B1 := β a) ha hp ⟨rfl, rfl, hw⟩
    rw [Nat.zero_add] at this
    exact this
  rcases h with ⟨v1, v2⟩ | ⟨hg, ⟨v1, v2⟩ | ⟨u0, v1, ⟨v2, v3⟩ | ⟨v2, v3, v4, v5⟩⟩⟩
  · exact ⟨6, β a, hb 6 (Or.inr ⟨v2, rfl⟩), Or.inl ⟨by omega, v1⟩⟩
  · exact ⟨0, β a, hb 0 (Or.inl ⟨hg, rfl⟩), Or.inr ⟨rfl, Or.inl ⟨v2, v1⟩⟩⟩
  · exact ⟨0, β a, hb 0 (Or.inl ⟨hg, rfl⟩), Or.inr ⟨rfl, Or.inr ⟨u0, v1, Or.inl ⟨v2, v3⟩⟩⟩⟩
  · exact ⟨0, β a, hb 0 (Or.inl ⟨hg, rfl⟩), Or.inr ⟨rfl, Or.inr ⟨u0, v1, Or.inr ⟨v2, v3, v4, v5⟩⟩⟩⟩
theorem good_iff {ev : Int → Int} {a : Nat} {A T : Int → Int} {m V pt u1 : Int} {S1 : NS} {t : Int → Int} (h : evS acts ev a 0 (0, 0, fun _ => 0, fun _ => 0) = some (m, (a : Int), A, T)) (h2 : (a : Int) = 2 * m) (hA : ArrA m a T A FA CA BA GO IA eN eD S0 V pt S1 u1 t) : GoodE acts FA CA BA GO IA eN eD S0 a ev ↔ V = 0 := by
  constructor
  · rintro ⟨m1, R1, A1, T1, pt1, S9, u, t9, g1, g2, g3⟩
    rw [h] at g1
    cases g1
    exact (ArrR_det hA g3).1
  · intro hV
    rw [hV] at hA
    exact ⟨m, a, A, T, pt, S1, u1, t, h, h2, hA⟩
end PRE
section AX
variable {A r A1 r1 : Int → Int} {I I1 : Int → Int → Prop} {k : Int} {σ : Int → NS} {B : Int → NB} {arB : Int} {arM : Int → Prop} {arR arL arA arS leN leD grN grD : Int → Int} {arH : Int → Prop} {stF : Int → Int → Prop} {stN stD : Int → Int → Int}
theorem ArI.ext (h : ArI A r I k σ B arB arM arR arL arA arS leN leD grN grD arH stF stN stD) (hr : ∀ i, 0 ≤ i → i < k → r1 i = r i) (hA : ∀ s, 0 ≤ s → grp r 0 k (2 * s) → A1 s = A s) (hI : ∀ i j, 0 ≤ i → i < k → 0 ≤ j → j < k → (I1 (r i) (r j) ↔ I (r i) (r j))) : ArI A1 r1 I1 k σ B arB arM arR arL arA arS leN leD grN grD arH stF stN stD := by
  obtain ⟨h1, h2, h3, h4, h5, h6⟩ := h
  have hg : ∀ p, grp r1 0 k p ↔ grp r 0 k p := fun p => grp_c hr
  refine ⟨fun i z1 z2 => by rw [hr i z1 z2]; exact h1 i z1 z2, h2, ?_, fun s z1 z2 => by rw [hg, hg]; exact h4 s z1 z2, fun s z1 z2 => ?_, fun i z1 z2 => ?_⟩
  · rw [h3]
    exact congrArg (fun n : Nat => (n : Int)) (cntP_c 12 (fun s _ _ => (hg _).symm))
  · obtain ⟨b1, b2, b3⟩ := h5 s z1 ((hg _).mp z2)
    refine ⟨by rw [hA s z1 ((hg _).mp z2)]; exact b1, ⟨b2.1, b2.2.1, by rw [hr _ b2.1 b2.2.1]; exact b2.2.2⟩, b3⟩
  · have := h6 i z1 z2
    unfold LI at this ⊢
    rw [hr i z1 z2]
    rcases this with ⟨x, y⟩ | ⟨x, y, z, w⟩
    · exact Or.inl ⟨x, fun j w1 w2 q => y j w1 w2 ((hI i j z1 z2 w1 (by omega)).mp (by rw [← hr j w1 (by omega)]; exact q))⟩
    · refine Or.inr ⟨x, y, ?_, fun j w1 w2 q => w j w1 w2 ((hI i j z1 z2 (by omega) (by omega)).mp (by rw [← hr j (by omega) (by omega)]; exact q))⟩
      rw [hr _ x (by omega)]
      exact (hI i _ z1 z2 x (by omega)).mpr z
end AX
theorem fstC_skip {α : Type} {f : Int → Option α} : ∀ (k : Nat) (j : Nat) (c : Int), (∀ i, c ≤ i → i < c + k → f i = none) → fstC f (k + j) c = fstC f j (c + k) := by
  intro k
  induction k with
  | zero => intro j c _; rw [Nat.zero_add]; simp
  | succ k ih =>
    intro j c h
    rw [show k + 1 + j = (k + j) + 1 by omega, fstC, h c (by omega) (by omega)]
    dsimp only
    rw [ih j (c + 1) (fun i z1 z2 => h i (by omega) (by omega))]
    exact congrArg _ (by omega)
theorem fstC_y {α : Type} {f : Int → Option α} {n : Nat} {c : Int} {r : α} (h : f c = some r) : fstC f (n + 1) c = some r := by rw [fstC, h]
theorem fstC_n {α : Type} {f : Int → Option α} {n : Nat} {c : Int} (h : f c = none) : fstC f (n + 1) c = fstC f n (c + 1) := by rw [fstC, h]
theorem RowOK.ext {r r1 : Int → Int} {m m1 k : Int} (h : RowOK r m k) (hm : m ≤ m1) (hr : ∀ i, 0 ≤ i → i ≤ k → r1 i = r i) (hk : 0 ≤ k) : RowOK r1 m1 k := by
  obtain ⟨h1, h2, h3, h4⟩ := h
  have hg : ∀ p, grp r1 0 k p ↔ grp r 0 k p := fun p => grp_c (fun i z1 z2 => hr i z1 (by omega))
  unfold RowOK
  rw [hr k hk (by omega)]
  exact ⟨by omega, fun z => h2 ((hg _).mp z), fun z => (hg _).mpr (h3 z), fun s z => (hg _).mpr (h4 s ((hg _).mp z))⟩

section R81
variable {s0 s1 : AC} {rest : AM} {ab : Int → Nat}
variable {alS alM plS plP veW veF veP juP arP arB arU arF : Int}
variable {handN handD fiN fiD epN epD goH goN goD plA plBN plBD plLN plLD plR vsN vsD juTN juTD juO scN scD noN noD neN neD arR arL arT arA arS leN leD grN grD arLU arGU shN shD : Int → Int}
variable {stN stD : Int → Int → Int}
variable {stF : Int → Int → Prop}
variable {gT gF fiF plM vsF juM noF neF arM arH : Int → Prop}
variable {alE : Nat}
variable {code amountN amountD momentN momentD epsilonN epsilonD actions steps rows tried triedRows unit point judged fault faultPoint outN outD : Int}
variable {firstN firstD wishes wants wantN wantD needs needTime needOf needHow needN needD changes changeTime changeOf changeHow changeN changeD lastOf lastN lastD stepAction startN startD lengthN lengthD row triedAction triedRow times numN numD oldN oldD toldN toldD pointN pointD leastN leastD greatestN greatestD events : Int → Int}
variable {firstFacts facts oldFacts toldFacts gone now : Int → Prop}
variable {k : Int}
theorem c_Ar_openSteps {d : Nat}   : Cg true d m_Arranger_openSteps [.ref 49] (MC s0 s1 handN handD gT gF alE actions alM fiF fiN fiD epN epD goH goN goD plS plP plM plA plBN plBD plLN plLD plR veW veF veP vsF vsN vsD juM juP juTN juTD juO scN scD noF noN noD neF neN neD arP arB arM arU arF arR arL arT arA arS leN leD grN grD arH arLU arGU shN shD stF stN stD rest) (.inl (some (.int (iI (2 * arB - arP))))) (MC s0 s1 handN handD gT gF alE actions alM fiF fiN fiD epN epD goH goN goD plS plP plM plA plBN plBD plLN plLD plR veW veF veP vsF vsN vsD juM juP juTN juTD juO scN scD noF noN noD neF neN neD arP arB arM arU arF arR arL arT arA arS leN leD grN grD arH arLU arGU shN shD stF stN stD rest) := by
  refine Cg.of (Nat.le_of_ble_eq_true rfl) ?_
  change Rg _ _ _ _ 0 [(0, .ref 49)] [] _ _ _
  refine Rg.step 1 F_Arranger_openSteps_0 rfl (fun _ => rfl) ?_
  refine Rg.step 2 F_Arranger_openSteps_1 rfl (fun _ => rfl) ?_
  refine Rg.getf 5 F_Arranger_openSteps_2 rfl rF_13_68 gC_49 rfl ?_
  refine Rg.mulI 6 F_Arranger_openSteps_5 rfl ?_
  refine Rg.step 7 F_Arranger_openSteps_6 rfl (fun _ => rfl) ?_
  refine Rg.getf 10 F_Arranger_openSteps_7 rfl rF_13_64 gC_49 rfl ?_
  refine Rg.subI 11 F_Arranger_openSteps_10 rfl ?_
  exact Rg.retI F_Arranger_openSteps_11 rfl rfl rfl
theorem c_Ar_isOpen {d : Nat}  {s : Int} (hs : 0 ≤ s ∧ s < 24) : Cg true d m_Arranger_isOpen [.ref 49, .int (iI s)] (MC s0 s1 handN handD gT gF alE actions alM fiF fiN fiD epN epD goH goN goD plS plP plM plA plBN plBD plLN plLD plR veW veF veP vsF vsN vsD juM juP juTN juTD juO scN scD noF noN noD neF neN neD arP arB arM arU arF arR arL arT arA arS leN leD grN grD arH arLU arGU shN shD stF stN stD rest) (.inl (some (.int (bP (arM s))))) (MC s0 s1 handN handD gT gF alE actions alM fiF fiN fiD epN epD goH goN goD plS plP plM plA plBN plBD plLN plLD plR veW veF veP vsF vsN vsD juM juP juTN juTD juO scN scD noF noN noD neF neN neD arP arB arM arU arF arR arL arT arA arS leN leD grN grD arH arLU arGU shN shD stF stN stD rest) := by
  refine Cg.of (Nat.le_of_ble_eq_true rfl) ?_
  change Rg _ _ _ _ 0 [(0, .ref 49), (1, .int (iI s))] [] _ _ _
  refine Rg.step 1 F_Arranger_isOpen_0 rfl (fun _ => rfl) ?_
  refine Rg.getf 4 F_Arranger_isOpen_1 rfl rF_13_71 gC_49 rfl ?_
  refine Rg.step 5 F_Arranger_isOpen_4 rfl (fun _ => rfl) ?_
  refine Rg.shrK 6 F_Arranger_isOpen_5 rfl (by omega) ?_
  refine Rg.step 7 F_Arranger_isOpen_6 rfl (fun _ => rfl) ?_
  refine Rg.and1 8 F_Arranger_isOpen_7 rfl ?_
  refine Rg.ifeqT 15 11 F_Arranger_isOpen_8 rfl rfl (by omega) (fun h8 => ?_) (fun h8 => ?_)
  · refine Rg.step 16 F_Arranger_isOpen_15 rfl (fun _ => rfl) ?_
    exact Rg.ret0 F_Arranger_isOpen_16 rfl h8 rfl
  · refine Rg.step 12 F_Arranger_isOpen_11 rfl (fun _ => rfl) ?_
    refine Rg.step 16 F_Arranger_isOpen_12 rfl (fun _ => rfl) ?_
    exact Rg.ret1 F_Arranger_isOpen_16 rfl h8 rfl
theorem c_Ar_back {d : Nat}  (hk : 0 ≤ k ∧ k < 24) (hr : 0 ≤ arR k ∧ arR k < 24) : Cg false (d + 1) m_Arranger_takePointBack [.ref 49] (MC s0 s1 handN handD gT gF alE actions alM fiF fiN fiD epN epD goH goN goD plS plP plM plA plBN plBD plLN plLD plR veW veF veP vsF vsN vsD juM juP juTN juTD juO scN scD noF noN noD neF neN neD (k + 1) arB arM arU arF arR arL arT arA arS leN leD grN grD arH arLU arGU shN shD stF stN stD rest) (.inl none) (MC s0 s1 handN handD gT gF alE actions alM fiF fiN fiD epN epD goH goN goD plS plP plM plA plBN plBD plLN plLD plR veW veF veP vsF vsN vsD juM juP juTN juTD juO scN scD noF noN noD neF neN neD k (if arR k % 2 = 0 then arB - 1 else arB) (fun i => arM i ↔ ¬ i = arR k / 2) arU arF arR arL arT arA arS leN leD grN grD arH arLU arGU shN shD stF stN stD rest) := by
  have ek : k + 1 - 1 = k := by omega
  refine Cg.of (Nat.le_of_ble_eq_true rfl) ?_
  change Rg _ _ _ _ 0 [(0, .ref 49)] [] _ _ _
  refine Rg.step 1 F_Arranger_takePointBack_0 rfl (fun _ => rfl) ?_
  refine Rg.step 2 F_Arranger_takePointBack_1 rfl (fun _ => rfl) ?_
  refine Rg.getf 5 F_Arranger_takePointBack_2 rfl rF_13_64 gC_49 rfl ?_
  refine Rg.step 6 F_Arranger_takePointBack_5 rfl (fun _ => rfl) ?_
  refine Rg.subI 7 F_Arranger_takePointBack_6 rfl ?_
  refine Rg.put 10 F_Arranger_takePointBack_7 rfl rF_13_64 gC_49 (by decide) (Nat.le_of_ble_eq_true rfl) (Or.inl rfl) rfl sO_arP ?_
  rw [ek]
  refine Rg.step 11 F_Arranger_takePointBack_10 rfl (fun _ => rfl) ?_
  refine Rg.step 12 F_Arranger_takePointBack_11 rfl (fun _ => rfl) ?_
  refine Rg.getf 15 F_Arranger_takePointBack_12 rfl rF_13_71 gC_49 rfl ?_
  refine Rg.step 16 F_Arranger_takePointBack_15 rfl (fun _ => rfl) ?_
  refine Rg.step 17 F_Arranger_takePointBack_16 rfl (fun _ => rfl) ?_
  refine Rg.getf 20 F_Arranger_takePointBack_17 rfl rF_13_17 gC_49 rfl ?_
  refine Rg.step 21 F_Arranger_takePointBack_20 rfl (fun _ => rfl) ?_
  refine Rg.getf 24 F_Arranger_takePointBack_21 rfl rF_13_64 gC_49 rfl ?_
  refine Rg.ild 25 F_Arranger_takePointBack_24 rfl gC_51 (by omega) (by decide) ?_
  refine Rg.step 26 F_Arranger_takePointBack_25 rfl (fun _ => rfl) ?_
  refine Rg.divIp 27 F_Arranger_takePointBack_26 rfl (by omega) (by omega) ?_
  refine Rg.shlK 28 F_Arranger_takePointBack_27 rfl (by omega) ?_
  refine Rg.xorK 29 F_Arranger_takePointBack_28 rfl ?_
  refine Rg.put 32 F_Arranger_takePointBack_29 rfl rF_13_71 gC_49 (by decide) (Nat.le_of_ble_eq_true rfl) (Or.inl rfl) rfl sO_arM ?_
  refine Rg.step 33 F_Arranger_takePointBack_32 rfl (fun _ => rfl) ?_
  refine Rg.getf 36 F_Arranger_takePointBack_33 rfl rF_13_17 gC_49 rfl ?_
  refine Rg.step 37 F_Arranger_takePointBack_36 rfl (fun _ => rfl) ?_
  refine Rg.getf 40 F_Arranger_takePointBack_37 rfl rF_13_64 gC_49 rfl ?_
  refine Rg.ild 41 F_Arranger_takePointBack_40 rfl gC_51 (by omega) (by decide) ?_
  refine Rg.call 44 F_Arranger_takePointBack_41 rfl (one_S (by decide +kernel) rM_13_134 (by decide) (by simp) rfl rfl) (Nat.le_of_ble_eq_true rfl) (Cg.any (c_PJ_isEnd (by omega))) ?_
  refine Rg.ifneP 57 47 F_Arranger_takePointBack_44 rfl rfl (fun h44 => ?_) (fun h44 => ?_)
  · rw [if_neg h44]
    exact Rg.retV F_Arranger_takePointBack_57 rfl rfl
  · rw [if_pos (by omega)]
    refine Rg.step 48 F_Arranger_takePointBack_47 rfl (fun _ => rfl) ?_
    refine Rg.step 49 F_Arranger_takePointBack_48 rfl (fun _ => rfl) ?_
    refine Rg.getf 52 F_Arranger_takePointBack_49 rfl rF_13_68 gC_49 rfl ?_
    refine Rg.step 53 F_Arranger_takePointBack_52 rfl (fun _ => rfl) ?_
    refine Rg.subI 54 F_Arranger_takePointBack_53 rfl ?_
    refine Rg.put 57 F_Arranger_takePointBack_54 rfl rF_13_68 gC_49 (by decide) (Nat.le_of_ble_eq_true rfl) (Or.inl rfl) rfl sO_arB ?_
    exact Rg.retV F_Arranger_takePointBack_57 rfl rfl
theorem cmp_main {d : Nat} (hw : WT epsilonN epsilonD wishes wants wantN wantD actions needs needTime needOf needHow needN needD changes changeTime changeOf changeHow changeN changeD lastOf lastN lastD firstN firstD) (hO : ActsOK needs needTime needOf needHow needN needD changes changeTime changeOf changeHow changeN changeD lastOf lastN lastD rest alE actions ab) (hE : epN 0 = epsilonN ∧ epD 0 = epsilonD) (he : Int.gcd epsilonN epsilonD = 1) (hT : ∀ i, 0 ≤ i → i < 24 → (gT i ↔ i < 16 ∧ wishes i = 1)) (hF : ∀ i, 0 ≤ i → i < 24 → (gF i ↔ i < 16 ∧ wishes i = 0)) (hH : goH = wants) (hgN : goN = wantN) (hgD : goD = wantD) {many : Nat} (hmy : many ≤ 6) (wF : WN fiN fiD) : ∀ (n : Nat) (a : Nat) (ev : Int → Int) (m : Int) (A T : Int → Int) (σ : Int → NS) (β : Int → Int → NB) (arP0 : Int) (arF0 : Int) (arU0 : Int) (arT0 : Int → Int) (shN0 : Int → Int) (shD0 : Int → Int) (arLU0 : Int → Int) (arGU0 : Int → Int) (arB0 : Int) (arM0 : Int → Prop) (arR0 : Int → Int) (arL0 : Int → Int) (arA0 : Int → Int) (arS0 : Int → Int) (leN0 : Int → Int) (leD0 : Int → Int) (grN0 : Int → Int) (grD0 : Int → Int) (arH0 : Int → Prop) (stF0 : Int → Int → Prop) (stN0 : Int → Int → Int) (stD0 : Int → Int → Int), a + n = many → evS actions ev a 0 (0, 0, fun _ => 0, fun _ => 0) = some (m, (a : Int), A, T) → (∀ i, 0 ≤ i → i < (a : Int) → 0 ≤ ev i ∧ ev i < 15) → arP0 = (a : Int) → ArI A T (intP A needs needTime needHow needOf lastOf changes changeTime changeHow changeOf) (a : Int) σ (β a) arB0 arM0 arR0 arL0 arA0 arS0 leN0 leD0 grN0 grD0 arH0 stF0 stN0 stD0 → PreOK (fun S a t => fit needs needTime needOf needHow needN needD S.1 S.2.1 S.2.2 a t) (fun S a t => chAll changeTime changeOf changeHow changeN changeD t (changes a).toNat (6 * a) S) (fun S a => (lbN lastOf lastN lastD epsilonN epsilonD S.2.1 S.2.2 a, lbD lastOf lastN lastD epsilonN epsilonD S.2.1 S.2.2 a, gbN lastOf lastN lastD S.2.1 S.2.2 a, gbD lastOf lastN lastD S.2.1 S.2.2 a)) (fiF, fiN, fiD) A T (a : Int) σ β → WN (σ a).2.1 (σ a).2.2 → (0 ≤ 2 * m - a ∧ 2 * m - a ≤ (n : Int)) → (∀ k, 0 ≤ k → k < (a : Int) → RowOK T m k) → (∀ s, 0 ≤ s → s < m → grp T 0 a (2 * s)) → (∃ ev', findE (GoodE actions (fun S a t => fit needs needTime needOf needHow needN needD S.1 S.2.1 S.2.2 a t) (fun S a t => chAll changeTime changeOf changeHow changeN changeD t (changes a).toNat (6 * a) S) (fun S a => (lbN lastOf lastN lastD epsilonN epsilonD S.2.1 S.2.2 a, lbD lastOf lastN lastD epsilonN epsilonD S.2.1 S.2.2 a, gbN lastOf lastN lastD S.2.1 S.2.2 a, gbD lastOf lastN lastD S.2.1 S.2.2 a)) (fun S => goal wishes wants wantN wantD S.1 S.2.1 S.2.2) (fun a t b u => interf needs needTime needHow needOf lastOf changes changeTime changeHow changeOf a t b u) epsilonN epsilonD (fiF, fiN, fiD) many) n (a : Int) ev = some ev' ∧ ∃ (arP1 : Int) (arF1 : Int) (arU1 : Int) (arT1 : Int → Int) (shN1 : Int → Int) (shD1 : Int → Int) (arLU1 : Int → Int) (arGU1 : Int → Int) (arB1 : Int) (arM1 : Int → Prop) (arR1 : Int → Int) (arL1 : Int → Int) (arA1 : Int → Int) (arS1 : Int → Int) (leN1 : Int → Int) (leD1 : Int → Int) (grN1 : Int → Int) (grD1 : Int → Int) (arH1 : Int → Prop) (stF1 : Int → Int → Prop) (stN1 : Int → Int → Int) (stD1 : Int → Int → Int), (∃ (m1 : Int) (A1 T1 : Int → Int) (pt : Int) (S1 : NS), evS actions ev' many 0 (0, 0, fun _ => 0, fun _ => 0) = some (m1, (many : Int), A1, T1) ∧ (many : Int) = 2 * m1 ∧ ArrA m1 (many : Int) T1 A1 (fun S a t => fit needs needTime needOf needHow needN needD S.1 S.2.1 S.2.2 a t) (fun S a t => chAll changeTime changeOf changeHow changeN changeD t (changes a).toNat (6 * a) S) (fun S a => (lbN lastOf lastN lastD epsilonN epsilonD S.2.1 S.2.2 a, lbD lastOf lastN lastD epsilonN epsilonD S.2.1 S.2.2 a, gbN lastOf lastN lastD S.2.1 S.2.2 a, gbD lastOf lastN lastD S.2.1 S.2.2 a)) (fun S => goal wishes wants wantN wantD S.1 S.2.1 S.2.2) (fun a t b u => interf needs needTime needHow needOf lastOf changes changeTime changeHow changeOf a t b u) epsilonN epsilonD (fiF, fiN, fiD) 0 pt S1 arU1 (fun p => arT1 (posP arR1 (many : Int) p)) ∧ arP1 = (many : Int) ∧ arB1 = m1 ∧ (0 ≤ m1 ∧ m1 ≤ 3) ∧ (∀ i, 0 ≤ i → i < (many : Int) → arR1 i = T1 i ∧ 0 ≤ T1 i ∧ T1 i < 2 * m1) ∧ (∀ i j, 0 ≤ i → i < j → j < (many : Int) → ¬ T1 i = T1 j) ∧ (∀ s, 0 ≤ s → s < m1 → arA1 s = A1 s ∧ 0 ≤ A1 s ∧ A1 s < actions ∧ 0 ≤ arS1 s ∧ arS1 s < (many : Int) ∧ T1 (arS1 s) = 2 * s) ∧ (∀ k, 0 ≤ k → k < (many : Int) → RowOK T1 m1 k) ∧ (0 < arU1 ∧ arU1 ≤ 100000) ∧ ∀ k, 0 ≤ arT1 k ∧ arT1 k ≤ 10000000000000) ∧ Cg false (d + 8 + n) m_PJ_completes [.ref 6, .ref 49, .int (iI (n : Int))] (MC s0 s1 handN handD gT gF alE actions alM fiF fiN fiD epN epD goH goN goD plS plP plM plA plBN plBD plLN plLD plR veW veF veP vsF vsN vsD juM juP juTN juTD juO scN scD noF noN noD neF neN neD arP0 arB0 arM0 arU0 arF0 arR0 arL0 arT0 arA0 arS0 leN0 leD0 grN0 grD0 arH0 arLU0 arGU0 shN0 shD0 stF0 stN0 stD0 rest) (.inl (some (.int (bP True)))) (MC s0 s1 handN handD gT gF alE actions alM fiF fiN fiD epN epD goH goN goD plS plP plM plA plBN plBD plLN plLD plR veW veF veP vsF vsN vsD juM juP juTN juTD juO scN scD noF noN noD neF neN neD arP1 arB1 arM1 arU1 arF1 arR1 arL1 arT1 arA1 arS1 leN1 leD1 grN1 grD1 arH1 arLU1 arGU1 shN1 shD1 stF1 stN1 stD1 rest)) ∨ (findE (GoodE actions (fun S a t => fit needs needTime needOf needHow needN needD S.1 S.2.1 S.2.2 a t) (fun S a t => chAll changeTime changeOf changeHow changeN changeD t (changes a).toNat (6 * a) S) (fun S a => (lbN lastOf lastN lastD epsilonN epsilonD S.2.1 S.2.2 a, lbD lastOf lastN lastD epsilonN epsilonD S.2.1 S.2.2 a, gbN lastOf lastN lastD S.2.1 S.2.2 a, gbD lastOf lastN lastD S.2.1 S.2.2 a)) (fun S => goal wishes wants wantN wantD S.1 S.2.1 S.2.2) (fun a t b u => interf needs needTime needHow needOf lastOf changes changeTime changeHow changeOf a t b u) epsilonN epsilonD (fiF, fiN, fiD) many) n (a : Int) ev = none ∧ ∃ (arP1 : Int) (arF1 : Int) (arU1 : Int) (arT1 : Int → Int) (shN1 : Int → Int) (shD1 : Int → Int) (arLU1 : Int → Int) (arGU1 : Int → Int) (arB1 : Int) (arM1 : Int → Prop) (arR1 : Int → Int) (arL1 : Int → Int) (arA1 : Int → Int) (arS1 : Int → Int) (leN1 : Int → Int) (leD1 : Int → Int) (grN1 : Int → Int) (grD1 : Int → Int) (arH1 : Int → Prop) (stF1 : Int → Int → Prop) (stN1 : Int → Int → Int) (stD1 : Int → Int → Int), arP1 = (a : Int) ∧ ArI A T (intP A needs needTime needHow needOf lastOf changes changeTime changeHow changeOf) (a : Int) σ (β a) arB1 arM1 arR1 arL1 arA1 arS1 leN1 leD1 grN1 grD1 arH1 stF1 stN1 stD1 ∧ Cg false (d + 8 + n) m_PJ_completes [.ref 6, .ref 49, .int (iI (n : Int))] (MC s0 s1 handN handD gT gF alE actions alM fiF fiN fiD epN epD goH goN goD plS plP plM plA plBN plBD plLN plLD plR veW veF veP vsF vsN vsD juM juP juTN juTD juO scN scD noF noN noD neF neN neD arP0 arB0 arM0 arU0 arF0 arR0 arL0 arT0 arA0 arS0 leN0 leD0 grN0 grD0 arH0 arLU0 arGU0 shN0 shD0 stF0 stN0 stD0 rest) (.inl (some (.int (bP False)))) (MC s0 s1 handN handD gT gF alE actions alM fiF fiN fiD epN epD goH goN goD plS plP plM plA plBN plBD plLN plLD plR veW veF veP vsF vsN vsD juM juP juTN juTD juO scN scD noF noN noD neF neN neD arP1 arB1 arM1 arU1 arF1 arR1 arL1 arT1 arA1 arS1 leN1 leD1 grN1 grD1 arH1 arLU1 arGU1 shN1 shD1 stF1 stN1 stD1 rest)) := by
  obtain ⟨wE, -, -, -, wA, -, -, -, -, -, -, wc, -, -, -, -, wcD, -, -, -, -⟩ := id hw
  intro n
  induction n with
  | zero =>
    intro a ev m A T σ β arP0 arF0 arU0 arT0 shN0 shD0 arLU0 arGU0 arB0 arM0 arR0 arL0 arA0 arS0 leN0 leD0 grN0 grD0 arH0 stF0 stN0 stD0 hmn hev hin hP hai hpre wN hop hok hst
    subst hP
    have hW := evS_W a 0 _ _ (fun i z1 z2 => (hin i z1 (by omega)).1) (EvW0 _ _ _) hev
    obtain ⟨w1, w2, w3, w4, w5⟩ := hW
    dsimp only at w1 w2 w3 w4 w5
    have hm3 : m ≤ 3 := by omega
    obtain ⟨e1, e2, e3⟩ := hai.2.1 (a : Int) (by omega) (Int.le_refl _)
    have wN' : WN (stN0 a) (stD0 a) := by rw [e2, e3]; exact wN
    have hS : σ a = (stF0 a, stN0 a, stD0 a) := by rw [e1, e2, e3]
    have hB : arB0 = m := by
      rw [hai.2.2.1, cntP_c (B := fun s => s < m) 12 (fun s z1 z2 => ⟨fun ⟨i, y1, y2, y3⟩ => by have := w4 i y1 y2; omega, fun z => hst s z1 z⟩)]
      exact cntP_m 12 w1.1 (by omega)
    have eam : a = many := by omega
    subst eam
    have h2m : (a : Int) = 2 * m := by omega
    obtain ⟨V, u1, t1, x1, y1, lu, gu, hL, hT1, hV, hc⟩ := c_Ar_late (d := d + 3) (A := A) (r := T) (σ := σ) (B := β a) (m := m) (R := (a : Int)) (s0 := s0) (s1 := s1) (rest := rest) (handN := handN) (handD := handD) (gT := gT) (gF := gF) (alE := alE) (alM := alM) (fiF := fiF) (fiN := fiN) (fiD := fiD) (epN := epN) (epD := epD) (goH := goH) (goN := goN) (goD := goD) (plS := plS) (plP := plP) (plM := plM) (plA := plA) (plBN := plBN) (plBD := plBD) (plLN := plLN) (plLD := plLD) (plR := plR) (veW := veW) (veF := veF) (veP := veP) (vsF := vsF) (vsN := vsN) (vsD := vsD) (juM := juM) (juP := juP) (juTN := juTN) (juTD := juTD) (juO := juO) (scN := scN) (scD := scD) (noF := noF) (noN := noN) (noD := noD) (neF := neF) (neN := neN) (neD := neD) (arB := arB0) (arM := arM0) (arU := arU0) (arF := arF0) (arR := arR0) (arL := arL0) (arT := arT0) (arA := arA0) (arS := arS0) (leN := leN0) (leD := leD0) (grN := grN0) (grD := grD0) (arH := arH0) (arLU := arLU0) (arGU := arGU0) (shN := shN0) (shD := shD0) (stF := stF0) (stN := stN0) (stD := stD0) hw hO hE hT hF hH hgN hgD (by omega) h2m hok wN' hai
    have hArr := late_arr (FA := (fun S a t => fit needs needTime needOf needHow needN needD S.1 S.2.1 S.2.2 a t)) (CA := (fun S a t => chAll changeTime changeOf changeHow changeN changeD t (changes a).toNat (6 * a) S)) (BA := (fun S a => (lbN lastOf lastN lastD epsilonN epsilonD S.2.1 S.2.2 a, lbD lastOf lastN lastD epsilonN epsilonD S.2.1 S.2.2 a, gbN lastOf lastN lastD S.2.1 S.2.2 a, gbD lastOf lastN lastD S.2.1 S.2.2 a))) (GO := (fun S => goal wishes wants wantN wantD S.1 S.2.1 S.2.2)) (IA := (fun a t b u => interf needs needTime needHow needOf lastOf changes changeTime changeHow changeOf a t b u)) (eN := epsilonN) (eD := epsilonD) (m := m) (u1 := u1) (t := fun p => t1 (posP arR0 (a : Int) p)) (V := V) (by omega) hpre (by rw [hS]; exact hL)
    have hgi := good_iff hev h2m hArr
    by_cases hV0 : V = 0
    · subst hV0
      obtain ⟨k1, k2⟩ := hT1 rfl
      refine Or.inl ⟨ev, by rw [findE, if_pos (hgi.mpr rfl)], (a : Int), -1, u1, t1, x1, y1, lu, gu, arB0, arM0, arR0, arL0, arA0, arS0, leN0, leD0, grN0, grD0, arH0, stF0, stN0, stD0, ⟨m, A, T, -1, σ a, hev, h2m, hArr, rfl, hB, by omega, fun i z1 z2 => ⟨hai.1 i z1 z2, w4 i z1 z2⟩, w5, fun s z1 z2 => ?_, hok, k1, k2⟩, ?_⟩
      · obtain ⟨b1, b2, -⟩ := hai.2.2.2.2.1 s z1 (hst s z1 z2)
        have := w3 s z1 z2
        exact ⟨b1, this.1, this.2, b2.1, b2.2.1, b2.2.2⟩
      · refine Cg.of (Nat.le_of_ble_eq_true rfl) ?_
        change Rg _ _ _ _ 0 [(0, .ref 6), (1, .ref 49), (2, .int (iI _))] [] _ _ _
        refine Rg.step 1 F_PJ_completes_0 rfl (fun _ => rfl) ?_
        refine Rg.ifgtI 18 4 F_PJ_completes_1 rfl rfl (by omega) (fun h1 => by omega) (fun _ => ?_)
        refine Rg.step 5 F_PJ_completes_4 rfl (fun _ => rfl) ?_
        refine Rg.step 6 F_PJ_completes_5 rfl (fun _ => rfl) ?_
        refine Rg.call 9 F_PJ_completes_6 rfl (one_V rM_1_268 (by decide) (by simp) rfl rfl gC_49 rfl) (Nat.le_of_ble_eq_true rfl) hc ?_
        refine Rg.ifneI 16 12 F_PJ_completes_9 rfl rfl (by omega) (fun h9 => by omega) (fun _ => ?_)
        refine Rg.step 13 F_PJ_completes_12 rfl (fun _ => rfl) ?_
        refine Rg.step 17 F_PJ_completes_13 rfl (fun _ => rfl) ?_
        exact Rg.ret1 F_PJ_completes_17 rfl trivial rfl
    · refine Or.inr ⟨by rw [findE, if_neg (fun z => hV0 (hgi.mp z))], (a : Int), -1, u1, t1, x1, y1, lu, gu, arB0, arM0, arR0, arL0, arA0, arS0, leN0, leD0, grN0, grD0, arH0, stF0, stN0, stD0, rfl, hai, ?_⟩
      refine Cg.of (Nat.le_of_ble_eq_true rfl) ?_
      change Rg _ _ _ _ 0 [(0, .ref 6), (1, .ref 49), (2, .int (iI _))] [] _ _ _
      refine Rg.step 1 F_PJ_completes_0 rfl (fun _ => rfl) ?_
      refine Rg.ifgtI 18 4 F_PJ_completes_1 rfl rfl (by omega) (fun h1 => by omega) (fun _ => ?_)
      refine Rg.step 5 F_PJ_completes_4 rfl (fun _ => rfl) ?_
      refine Rg.step 6 F_PJ_completes_5 rfl (fun _ => rfl) ?_
      refine Rg.call 9 F_PJ_completes_6 rfl (one_V rM_1_268 (by decide) (by simp) rfl rfl gC_49 rfl) (Nat.le_of_ble_eq_true rfl) hc ?_
      refine Rg.ifneI 16 12 F_PJ_completes_9 rfl rfl (by omega) (fun _ => ?_) (fun h9 => by omega)
      refine Rg.step 17 F_PJ_completes_16 rfl (fun _ => rfl) ?_
      exact Rg.ret0 F_PJ_completes_17 rfl (fun z => z) rfl
  | succ n ih =>
    intro a ev m A T σ β arP0 arF0 arU0 arT0 shN0 shD0 arLU0 arGU0 arB0 arM0 arR0 arL0 arA0 arS0 leN0 leD0 grN0 grD0 arH0 stF0 stN0 stD0 hmn hev hin hP hai hpre wN hop hok hst
    subst hP
    have hW := evS_W a 0 _ _ (fun i z1 z2 => (hin i z1 (by omega)).1) (EvW0 _ _ _) hev
    obtain ⟨w1, w2, w3, w4, w5⟩ := hW
    dsimp only at w1 w2 w3 w4 w5
    have hm3 : m ≤ 3 := by omega
    obtain ⟨e1, e2, e3⟩ := hai.2.1 (a : Int) (by omega) (Int.le_refl _)
    have wN' : WN (stN0 a) (stD0 a) := by rw [e2, e3]; exact wN
    have hS : σ a = (stF0 a, stN0 a, stD0 a) := by rw [e1, e2, e3]
    have hB : arB0 = m := by
      rw [hai.2.2.1, cntP_c (B := fun s => s < m) 12 (fun s z1 z2 => ⟨fun ⟨i, y1, y2, y3⟩ => by have := w4 i y1 y2; omega, fun z => hst s z1 z⟩)]
      exact cntP_m 12 w1.1 (by omega)
    have hns : ((n + 1 : Nat) : Int) = (n : Int) + 1 := by omega
    have hagr : ∀ c i, 0 ≤ i → i < (a : Int) → up1 ev (a : Int) c i = ev i := fun c i z1 z2 => up1_ne _ _ (by omega)
    have hevc : ∀ c, evS actions (up1 ev (a : Int) c) a 0 (0, 0, fun _ => 0, fun _ => 0) = some (m, (a : Int), A, T) := fun c => by
      rw [← hev]
      have key : ∀ (j : Nat) (k : Int) (st : EvT), 0 ≤ k → k + j ≤ (a : Int) → evS actions (up1 ev (a : Int) c) j k st = evS actions ev j k st := by
        intro j
        induction j with
        | zero => intro k st _ _; rfl
        | succ j ihj =>
          intro k st k0 kj
          obtain ⟨y1, y2, y3, y4⟩ := st
          rw [evS_s, evS_s, up1_ne _ _ (by omega), ihj _ _ (by omega) (by omega), ihj _ _ (by omega) (by omega)]
      exact key a 0 _ (by omega) (by omega)
    have hev1 : ∀ c, evS actions (up1 ev (a : Int) c) (a + 1) 0 (0, 0, fun _ => 0, fun _ => 0) = evS actions (up1 ev (a : Int) c) 1 (a : Int) (m, (a : Int), A, T) := fun c => by
      rw [evS_add, hevc c, Option.bind_some]
      simp
    have hinv : ∀ c, evS actions (up1 ev (a : Int) c) 1 (a : Int) (m, (a : Int), A, T) = none → (fun c => findE (GoodE actions (fun S a t => fit needs needTime needOf needHow needN needD S.1 S.2.1 S.2.2 a t) (fun S a t => chAll changeTime changeOf changeHow changeN changeD t (changes a).toNat (6 * a) S) (fun S a => (lbN lastOf lastN lastD epsilonN epsilonD S.2.1 S.2.2 a, lbD lastOf lastN lastD epsilonN epsilonD S.2.1 S.2.2 a, gbN lastOf lastN lastD S.2.1 S.2.2 a, gbD lastOf lastN lastD S.2.1 S.2.2 a)) (fun S => goal wishes wants wantN wantD S.1 S.2.1 S.2.2) (fun a t b u => interf needs needTime needHow needOf lastOf changes changeTime changeHow changeOf a t b u) epsilonN epsilonD (fiF, fiN, fiD) many) n ((a : Int) + 1) (up1 ev (a : Int) c)) c = none := fun c hc => findE_none n _ _ (fun ev1 z1 z2 => by
      rw [show many = (a + 1) + n by omega]
      exact GoodE_pre ((hev1 c).trans hc) (fun i y1 y2 => z1 i (by omega)))
    have hbeg : ∀ c, c < 12 → c < actions → evS actions (up1 ev (a : Int) c) 1 (a : Int) (m, (a : Int), A, T) = some (m + 1, (a : Int) + 1, up1 A m c, up1 T (a : Int) (2 * m)) := fun c c1 c2 => by
      rw [evS_s, up1_eq, if_pos c1, if_pos c2]
      rfl
    have hend : ∀ s, 0 ≤ s → s < m → (∀ i, 0 ≤ i → i < (a : Int) → ¬ T i = 2 * s + 1) → evS actions (up1 ev (a : Int) (s + 12)) 1 (a : Int) (m, (a : Int), A, T) = some (m, (a : Int) + 1, A, up1 T (a : Int) (2 * s + 1)) := fun s s1 s2 s3 => by
      rw [evS_s, up1_eq, if_neg (by omega), show s + 12 - 12 = s by omega, if_pos ⟨s2, s3⟩]
      rfl
    have hT0 : ∀ v i, 0 ≤ i → i < (a : Int) → up1 T (a : Int) v i = T i := fun v i z1 z2 => up1_ne _ _ (by omega)
    have hT2 : ∀ i, 0 ≤ i → i < (a : Int) → T i / 2 < m := fun i z1 z2 => by have := w4 i z1 z2; omega
    have hgT : ∀ v p, grp (up1 T (a : Int) v) 0 (a : Int) p ↔ grp T 0 (a : Int) p := fun v p => grp_c (hT0 v)
    rw [findE]
    have key : ∀ (n0 : Nat) (q : Nat) (c : Int) (arP0 : Int) (arF0 : Int) (arU0 : Int) (arT0 : Int → Int) (shN0 : Int → Int) (shD0 : Int → Int) (arLU0 : Int → Int) (arGU0 : Int → Int) (arB0 : Int) (arM0 : Int → Prop) (arR0 : Int → Int) (arL0 : Int → Int) (arA0 : Int → Int) (arS0 : Int → Int) (leN0 : Int → Int) (leD0 : Int → Int) (grN0 : Int → Int) (grD0 : Int → Int) (arH0 : Int → Prop) (stF0 : Int → Int → Prop) (stN0 : Int → Int → Int) (stD0 : Int → Int → Int), c + q = 12 + m → 0 ≤ c → (c < 12 → 2 * m - a + 2 ≤ (n : Int) + 1) → arP0 = (a : Int) → arB0 = m → ArI A T (intP A needs needTime needHow needOf lastOf changes changeTime changeHow changeOf) (a : Int) σ (β a) arB0 arM0 arR0 arL0 arA0 arS0 leN0 leD0 grN0 grD0 arH0 stF0 stN0 stD0 → (∃ ev', fstC (fun c => findE (GoodE actions (fun S a t => fit needs needTime needOf needHow needN needD S.1 S.2.1 S.2.2 a t) (fun S a t => chAll changeTime changeOf changeHow changeN changeD t (changes a).toNat (6 * a) S) (fun S a => (lbN lastOf lastN lastD epsilonN epsilonD S.2.1 S.2.2 a, lbD lastOf lastN lastD epsilonN epsilonD S.2.1 S.2.2 a, gbN lastOf lastN lastD S.2.1 S.2.2 a, gbD lastOf lastN lastD S.2.1 S.2.2 a)) (fun S => goal wishes wants wantN wantD S.1 S.2.1 S.2.2) (fun a t b u => interf needs needTime needHow needOf lastOf changes changeTime changeHow changeOf a t b u) epsilonN epsilonD (fiF, fiN, fiD) many) n ((a : Int) + 1) (up1 ev (a : Int) c)) (15 - c).toNat c = some ev' ∧ ∃ (arP1 : Int) (arF1 : Int) (arU1 : Int) (arT1 : Int → Int) (shN1 : Int → Int) (shD1 : Int → Int) (arLU1 : Int → Int) (arGU1 : Int → Int) (arB1 : Int) (arM1 : Int → Prop) (arR1 : Int → Int) (arL1 : Int → Int) (arA1 : Int → Int) (arS1 : Int → Int) (leN1 : Int → Int) (leD1 : Int → Int) (grN1 : Int → Int) (grD1 : Int → Int) (arH1 : Int → Prop) (stF1 : Int → Int → Prop) (stN1 : Int → Int → Int) (stD1 : Int → Int → Int), (∃ (m1 : Int) (A1 T1 : Int → Int) (pt : Int) (S1 : NS), evS actions ev' many 0 (0, 0, fun _ => 0, fun _ => 0) = some (m1, (many : Int), A1, T1) ∧ (many : Int) = 2 * m1 ∧ ArrA m1 (many : Int) T1 A1 (fun S a t => fit needs needTime needOf needHow needN needD S.1 S.2.1 S.2.2 a t) (fun S a t => chAll changeTime changeOf changeHow changeN changeD t (changes a).toNat (6 * a) S) (fun S a => (lbN lastOf lastN lastD epsilonN epsilonD S.2.1 S.2.2 a, lbD lastOf lastN lastD epsilonN epsilonD S.2.1 S.2.2 a, gbN lastOf lastN lastD S.2.1 S.2.2 a, gbD lastOf lastN lastD S.2.1 S.2.2 a)) (fun S => goal wishes wants wantN wantD S.1 S.2.1 S.2.2) (fun a t b u => interf needs needTime needHow needOf lastOf changes changeTime changeHow changeOf a t b u) epsilonN epsilonD (fiF, fiN, fiD) 0 pt S1 arU1 (fun p => arT1 (posP arR1 (many : Int) p)) ∧ arP1 = (many : Int) ∧ arB1 = m1 ∧ (0 ≤ m1 ∧ m1 ≤ 3) ∧ (∀ i, 0 ≤ i → i < (many : Int) → arR1 i = T1 i ∧ 0 ≤ T1 i ∧ T1 i < 2 * m1) ∧ (∀ i j, 0 ≤ i → i < j → j < (many : Int) → ¬ T1 i = T1 j) ∧ (∀ s, 0 ≤ s → s < m1 → arA1 s = A1 s ∧ 0 ≤ A1 s ∧ A1 s < actions ∧ 0 ≤ arS1 s ∧ arS1 s < (many : Int) ∧ T1 (arS1 s) = 2 * s) ∧ (∀ k, 0 ≤ k → k < (many : Int) → RowOK T1 m1 k) ∧ (0 < arU1 ∧ arU1 ≤ 100000) ∧ ∀ k, 0 ≤ arT1 k ∧ arT1 k ≤ 10000000000000) ∧ Rg false (d + 8 + (n + 1)) m_PJ_completes n0 53 [(5, .int (iI c)), (3, .int (iI m)), (0, .ref 6), (1, .ref 49), (2, .int (iI ((n : Int) + 1)))] [] (MC s0 s1 handN handD gT gF alE actions alM fiF fiN fiD epN epD goH goN goD plS plP plM plA plBN plBD plLN plLD plR veW veF veP vsF vsN vsD juM juP juTN juTD juO scN scD noF noN noD neF neN neD arP0 arB0 arM0 arU0 arF0 arR0 arL0 arT0 arA0 arS0 leN0 leD0 grN0 grD0 arH0 arLU0 arGU0 shN0 shD0 stF0 stN0 stD0 rest) (.inl (some (.int (bP True)))) (MC s0 s1 handN handD gT gF alE actions alM fiF fiN fiD epN epD goH goN goD plS plP plM plA plBN plBD plLN plLD plR veW veF veP vsF vsN vsD juM juP juTN juTD juO scN scD noF noN noD neF neN neD arP1 arB1 arM1 arU1 arF1 arR1 arL1 arT1 arA1 arS1 leN1 leD1 grN1 grD1 arH1 arLU1 arGU1 shN1 shD1 stF1 stN1 stD1 rest)) ∨ (fstC (fun c => findE (GoodE actions (fun S a t => fit needs needTime needOf needHow needN needD S.1 S.2.1 S.2.2 a t) (fun S a t => chAll changeTime changeOf changeHow changeN changeD t (changes a).toNat (6 * a) S) (fun S a => (lbN lastOf lastN lastD epsilonN epsilonD S.2.1 S.2.2 a, lbD lastOf lastN lastD epsilonN epsilonD S.2.1 S.2.2 a, gbN lastOf lastN lastD S.2.1 S.2.2 a, gbD lastOf lastN lastD S.2.1 S.2.2 a)) (fun S => goal wishes wants wantN wantD S.1 S.2.1 S.2.2) (fun a t b u => interf needs needTime needHow needOf lastOf changes changeTime changeHow changeOf a t b u) epsilonN epsilonD (fiF, fiN, fiD) many) n ((a : Int) + 1) (up1 ev (a : Int) c)) (15 - c).toNat c = none ∧ ∃ (arP1 : Int) (arF1 : Int) (arU1 : Int) (arT1 : Int → Int) (shN1 : Int → Int) (shD1 : Int → Int) (arLU1 : Int → Int) (arGU1 : Int → Int) (arB1 : Int) (arM1 : Int → Prop) (arR1 : Int → Int) (arL1 : Int → Int) (arA1 : Int → Int) (arS1 : Int → Int) (leN1 : Int → Int) (leD1 : Int → Int) (grN1 : Int → Int) (grD1 : Int → Int) (arH1 : Int → Prop) (stF1 : Int → Int → Prop) (stN1 : Int → Int → Int) (stD1 : Int → Int → Int), arP1 = (a : Int) ∧ ArI A T (intP A needs needTime needHow needOf lastOf changes changeTime changeHow changeOf) (a : Int) σ (β a) arB1 arM1 arR1 arL1 arA1 arS1 leN1 leD1 grN1 grD1 arH1 stF1 stN1 stD1 ∧ Rg false (d + 8 + (n + 1)) m_PJ_completes n0 53 [(5, .int (iI c)), (3, .int (iI m)), (0, .ref 6), (1, .ref 49), (2, .int (iI ((n : Int) + 1)))] [] (MC s0 s1 handN handD gT gF alE actions alM fiF fiN fiD epN epD goH goN goD plS plP plM plA plBN plBD plLN plLD plR veW veF veP vsF vsN vsD juM juP juTN juTD juO scN scD noF noN noD neF neN neD arP0 arB0 arM0 arU0 arF0 arR0 arL0 arT0 arA0 arS0 leN0 leD0 grN0 grD0 arH0 arLU0 arGU0 shN0 shD0 stF0 stN0 stD0 rest) (.inl (some (.int (bP False)))) (MC s0 s1 handN handD gT gF alE actions alM fiF fiN fiD epN epD goH goN goD plS plP plM plA plBN plBD plLN plLD plR veW veF veP vsF vsN vsD juM juP juTN juTD juO scN scD noF noN noD neF neN neD arP1 arB1 arM1 arU1 arF1 arR1 arL1 arT1 arA1 arS1 leN1 leD1 grN1 grD1 arH1 arLU1 arGU1 shN1 shD1 stF1 stN1 stD1 rest)) := by
      clear hai e1 e2 e3 wN' hS hB
      clear stD0 stN0 stF0 arH0 grD0 grN0 leD0 leN0 arS0 arA0 arL0 arR0 arM0 arB0 arGU0 arLU0 shD0 shN0 arT0 arU0 arF0
      intro n0 q
      induction q with
      | zero =>
        intro c arP0 arF0 arU0 arT0 shN0 shD0 arLU0 arGU0 arB0 arM0 arR0 arL0 arA0 arS0 leN0 leD0 grN0 grD0 arH0 stF0 stN0 stD0 hc hc0 hmb hP hB hai
        subst hP
        have hnone : fstC (fun c => findE (GoodE actions (fun S a t => fit needs needTime needOf needHow needN needD S.1 S.2.1 S.2.2 a t) (fun S a t => chAll changeTime changeOf changeHow changeN changeD t (changes a).toNat (6 * a) S) (fun S a => (lbN lastOf lastN lastD epsilonN epsilonD S.2.1 S.2.2 a, lbD lastOf lastN lastD epsilonN epsilonD S.2.1 S.2.2 a, gbN lastOf lastN lastD S.2.1 S.2.2 a, gbD lastOf lastN lastD S.2.1 S.2.2 a)) (fun S => goal wishes wants wantN wantD S.1 S.2.1 S.2.2) (fun a t b u => interf needs needTime needHow needOf lastOf changes changeTime changeHow changeOf a t b u) epsilonN epsilonD (fiF, fiN, fiD) many) n ((a : Int) + 1) (up1 ev (a : Int) c)) (15 - c).toNat c = none := (fstC_none _ _).mpr (fun i z1 z2 => hinv i (by
          rw [evS_s, up1_eq, if_neg (by omega), if_neg (fun z => by omega)]))
        refine Or.inr ⟨hnone, (a : Int), arF0, arU0, arT0, shN0, shD0, arLU0, arGU0, arB0, arM0, arR0, arL0, arA0, arS0, leN0, leD0, grN0, grD0, arH0, stF0, stN0, stD0, rfl, hai, ?_⟩
        refine Rg.step 55 F_PJ_completes_53 rfl (fun _ => rfl) ?_
        refine Rg.bip 57 F_PJ_completes_55 rfl rfl ?_
        refine Rg.step 58 F_PJ_completes_57 rfl (fun _ => rfl) ?_
        refine Rg.addI 59 F_PJ_completes_58 rfl ?_
        refine Rg.icgeI 195 62 F_PJ_completes_59 rfl rfl (by omega) (by omega) (fun _ => ?_) (fun h59 => by omega)
        refine Rg.step 196 F_PJ_completes_195 rfl (fun _ => rfl) ?_
        exact Rg.ret0 F_PJ_completes_196 rfl (fun z => z) rfl
      | succ q ihq =>
        intro c arP0 arF0 arU0 arT0 shN0 shD0 arLU0 arGU0 arB0 arM0 arR0 arL0 arA0 arS0 leN0 leD0 grN0 grD0 arH0 stF0 stN0 stD0 hc hc0 hmb hP hB hai
        subst hP
        obtain ⟨e1, e2, e3⟩ := hai.2.1 (a : Int) (by omega) (Int.le_refl _)
        have wN' : WN (stN0 a) (stD0 a) := by rw [e2, e3]; exact wN
        have hS : σ a = (stF0 a, stN0 a, stD0 a) := by rw [e1, e2, e3]
        have e15 : (15 - c).toNat = (15 - (c + 1)).toNat + 1 := by omega
        have skip : (fun c => findE (GoodE actions (fun S a t => fit needs needTime needOf needHow needN needD S.1 S.2.1 S.2.2 a t) (fun S a t => chAll changeTime changeOf changeHow changeN changeD t (changes a).toNat (6 * a) S) (fun S a => (lbN lastOf lastN lastD epsilonN epsilonD S.2.1 S.2.2 a, lbD lastOf lastN lastD epsilonN epsilonD S.2.1 S.2.2 a, gbN lastOf lastN lastD S.2.1 S.2.2 a, gbD lastOf lastN lastD S.2.1 S.2.2 a)) (fun S => goal wishes wants wantN wantD S.1 S.2.1 S.2.2) (fun a t b u => interf needs needTime needHow needOf lastOf changes changeTime changeHow changeOf a t b u) epsilonN epsilonD (fiF, fiN, fiD) many) n ((a : Int) + 1) (up1 ev (a : Int) c)) c = none → fstC (fun c => findE (GoodE actions (fun S a t => fit needs needTime needOf needHow needN needD S.1 S.2.1 S.2.2 a t) (fun S a t => chAll changeTime changeOf changeHow changeN changeD t (changes a).toNat (6 * a) S) (fun S a => (lbN lastOf lastN lastD epsilonN epsilonD S.2.1 S.2.2 a, lbD lastOf lastN lastD epsilonN epsilonD S.2.1 S.2.2 a, gbN lastOf lastN lastD S.2.1 S.2.2 a, gbD lastOf lastN lastD S.2.1 S.2.2 a)) (fun S => goal wishes wants wantN wantD S.1 S.2.1 S.2.2) (fun a t b u => interf needs needTime needHow needOf lastOf changes changeTime changeHow changeOf a t b u) epsilonN epsilonD (fiF, fiN, fiD) many) n ((a : Int) + 1) (up1 ev (a : Int) c)) (15 - c).toNat c = fstC (fun c => findE (GoodE actions (fun S a t => fit needs needTime needOf needHow needN needD S.1 S.2.1 S.2.2 a t) (fun S a t => chAll changeTime changeOf changeHow changeN changeD t (changes a).toNat (6 * a) S) (fun S a => (lbN lastOf lastN lastD epsilonN epsilonD S.2.1 S.2.2 a, lbD lastOf lastN lastD epsilonN epsilonD S.2.1 S.2.2 a, gbN lastOf lastN lastD S.2.1 S.2.2 a, gbD lastOf lastN lastD S.2.1 S.2.2 a)) (fun S => goal wishes wants wantN wantD S.1 S.2.1 S.2.2) (fun a t b u => interf needs needTime needHow needOf lastOf changes changeTime changeHow changeOf a t b u) epsilonN epsilonD (fiF, fiN, fiD) many) n ((a : Int) + 1) (up1 ev (a : Int) c)) (15 - (c + 1)).toNat (c + 1) := fun hn => by rw [e15]; exact fstC_n hn
        by_cases hcb : c < 12
        · skip
          by_cases hact : c < actions
          · skip
            have hE1 := (hev1 c).trans (hbeg c (by omega) hact)
            have hnew : ∀ i, 0 ≤ i → i < (a : Int) → ¬ T i = 2 * m := fun i z1 z2 => by have := w4 i z1 z2; omega
            have hAe : ∀ s, 0 ≤ s → grp T 0 (a : Int) (2 * s) → up1 A m c s = A s := fun s z1 ⟨i, y1, y2, y3⟩ => up1_ne _ _ (by have := w4 i y1 y2; omega)
            have hAb : ∀ i, 0 ≤ i → i < (a : Int) → up1 A m c (T i / 2) = A (T i / 2) := fun i z1 z2 => up1_ne _ _ (by have := hT2 i z1 z2; omega)
            have hAact : ∀ s, 0 ≤ s → s < m + 1 → 0 ≤ up1 A m c s ∧ up1 A m c s < actions := fun s z1 z2 => by
              by_cases h : s = m
              · rw [h, up1_eq]; omega
              · rw [up1_ne _ _ h]; exact w3 s z1 (by omega)
            have eA : up1 A m c (up1 T (a : Int) (2 * m) a / 2) = c := by rw [up1_eq, show 2 * m / 2 = m by omega, up1_eq]
            have hopn : 0 ≤ 2 * (m + 1) - ((a : Int) + 1) ∧ 2 * (m + 1) - ((a : Int) + 1) ≤ (n : Int) := by have := hmb (by omega); omega
            have eT : (up1 T (a : Int) (2 * m)) a = (2 * m) := up1_eq _ _ _
            have hRk : RowOK (up1 T (a : Int) (2 * m)) (m + 1) (a : Int) := by
              unfold RowOK
              rw [eT]
              refine ⟨by omega, fun z => ?_, fun z => ?_, fun s z => ?_⟩
              · obtain ⟨i, y1, y2, y3⟩ := (hgT _ _).mp z
                exact hnew i y1 y2 y3
              · omega
              · rw [hgT] at z ⊢
                obtain ⟨i, y1, y2, y3⟩ := id z
                have := w4 i y1 y2
                exact hst s (by omega) (by omega)
            have hai1 : ArI (up1 A m c) (up1 T (a : Int) (2 * m)) (intP (up1 A m c) needs needTime needHow needOf lastOf changes changeTime changeHow changeOf) (a : Int) σ (β a) arB0 arM0 arR0 arL0 arA0 arS0 leN0 leD0 grN0 grD0 arH0 stF0 stN0 stD0 := hai.ext (hT0 _) hAe (fun i j z1 z2 z3 z4 => by
              unfold intP
              rw [hAb i z1 z2, hAb j z3 z4])
            have hpre1 : PreOK (fun S a t => fit needs needTime needOf needHow needN needD S.1 S.2.1 S.2.2 a t) (fun S a t => chAll changeTime changeOf changeHow changeN changeD t (changes a).toNat (6 * a) S) (fun S a => (lbN lastOf lastN lastD epsilonN epsilonD S.2.1 S.2.2 a, lbD lastOf lastN lastD epsilonN epsilonD S.2.1 S.2.2 a, gbN lastOf lastN lastD S.2.1 S.2.2 a, gbD lastOf lastN lastD S.2.1 S.2.2 a)) (fiF, fiN, fiD) (up1 A m c) (up1 T (a : Int) (2 * m)) (a : Int) σ β := hpre.ext (hT0 _) hAb (fun s ⟨i, y1, y2, y3⟩ => hAe s (by have := w4 i y1 y2; omega) ⟨i, y1, y2, y3⟩)
            obtain ⟨why, arPa, arFa, arBa, arMa, arRa, arLa, arAa, arSa, leNa, leDa, grNa, grDa, arHa, stFa, stNa, stDa, hADD, hc1⟩ := c_Ar_add (d := d + 3 + n) (A := (up1 A m c)) (r := (up1 T (a : Int) (2 * m))) (σ := σ) (B := β a) (m := (m + 1)) (k := (a : Int)) (s0 := s0) (s1 := s1) (rest := rest) (handN := handN) (handD := handD) (gT := gT) (gF := gF) (alE := alE) (alM := alM) (fiF := fiF) (fiN := fiN) (fiD := fiD) (epN := epN) (epD := epD) (goH := goH) (goN := goN) (goD := goD) (plS := plS) (plP := plP) (plM := plM) (plA := plA) (plBN := plBN) (plBD := plBD) (plLN := plLN) (plLD := plLD) (plR := plR) (veW := veW) (veF := veF) (veP := veP) (vsF := vsF) (vsN := vsN) (vsD := vsD) (juM := juM) (juP := juP) (juTN := juTN) (juTD := juTD) (juO := juO) (scN := scN) (scD := scD) (noF := noF) (noN := noN) (noD := noD) (neF := neF) (neN := neN) (neD := neD) (arB := arB0) (arM := arM0) (arU := arU0) (arF := arF0) (arR := arR0) (arL := arL0) (arT := arT0) (arA := arA0) (arS := arS0) (leN := leN0) (leD := leD0) (grN := grN0) (grD := grD0) (arH := arH0) (arLU := arLU0) (arGU := arGU0) (shN := shN0) (shD := shD0) (stF := stF0) (stN := stN0) (stD := stD0) hw hO hE he (by omega) (by omega) hRk (fun i z1 z2 => by rw [hT0 _ i z1 z2]; have := w4 i z1 z2; omega) hAact wN' hai1
            rw [eA, eT] at hc1
            replace hc1 := Cg.deep hc1 (show d + 3 + n + 5 ≤ d + 8 + n by omega)
            have hev2 : ∀ i, 0 ≤ i → i < (a : Int) + 1 → 0 ≤ up1 ev (a : Int) c i ∧ up1 ev (a : Int) c i < 15 := fun i z1 z2 => by
              by_cases h : i = (a : Int)
              · rw [h, up1_eq]; omega
              · rw [up1_ne _ _ h]; exact hin i z1 (by omega)
            have hpt : ∀ i, 0 ≤ i → i < (a : Int) + 1 → (up1 T (a : Int) (2 * m)) i / 2 < (m + 1) := fun i z1 z2 => by
              by_cases h : i = (a : Int)
              · rw [h, eT]; omega
              · rw [hT0 _ i z1 (by omega)]; have := hT2 i z1 (by omega); omega
            have hbadno : (¬ (fun S a t => fit needs needTime needOf needHow needN needD S.1 S.2.1 S.2.2 a t) (σ a) ((up1 A m c) ((up1 T (a : Int) (2 * m)) a / 2)) (tmo ((up1 T (a : Int) (2 * m)) a)) ∨ ((fun S a t => fit needs needTime needOf needHow needN needD S.1 S.2.1 S.2.2 a t) (σ a) ((up1 A m c) ((up1 T (a : Int) (2 * m)) a / 2)) (tmo ((up1 T (a : Int) (2 * m)) a)) ∧ ((fun S a t => chAll changeTime changeOf changeHow changeN changeD t (changes a).toNat (6 * a) S) (σ a) ((up1 A m c) ((up1 T (a : Int) (2 * m)) a / 2)) (tmo ((up1 T (a : Int) (2 * m)) a)) = none ∨ ∃ S2, (fun S a t => chAll changeTime changeOf changeHow changeN changeD t (changes a).toNat (6 * a) S) (σ a) ((up1 A m c) ((up1 T (a : Int) (2 * m)) a / 2)) (tmo ((up1 T (a : Int) (2 * m)) a)) = some S2 ∧ ∃ q, 0 ≤ q ∧ q < (m + 1) ∧ (grp (up1 T (a : Int) (2 * m)) 0 ((a : Int) + 1) (2 * q) ∧ ¬ grp (up1 T (a : Int) (2 * m)) 0 ((a : Int) + 1) (2 * q + 1) ∧ ¬ (fun S a t => fit needs needTime needOf needHow needN needD S.1 S.2.1 S.2.2 a t) S2 ((up1 A m c) q) 1) ∧ ∀ j, 0 ≤ j → j < q → ¬ (grp (up1 T (a : Int) (2 * m)) 0 ((a : Int) + 1) (2 * j) ∧ ¬ grp (up1 T (a : Int) (2 * m)) 0 ((a : Int) + 1) (2 * j + 1) ∧ ¬ (fun S a t => fit needs needTime needOf needHow needN needD S.1 S.2.1 S.2.2 a t) S2 ((up1 A m c) j) 1)))) → (fun c => findE (GoodE actions (fun S a t => fit needs needTime needOf needHow needN needD S.1 S.2.1 S.2.2 a t) (fun S a t => chAll changeTime changeOf changeHow changeN changeD t (changes a).toNat (6 * a) S) (fun S a => (lbN lastOf lastN lastD epsilonN epsilonD S.2.1 S.2.2 a, lbD lastOf lastN lastD epsilonN epsilonD S.2.1 S.2.2 a, gbN lastOf lastN lastD S.2.1 S.2.2 a, gbD lastOf lastN lastD S.2.1 S.2.2 a)) (fun S => goal wishes wants wantN wantD S.1 S.2.1 S.2.2) (fun a t b u => interf needs needTime needHow needOf lastOf changes changeTime changeHow changeOf a t b u) epsilonN epsilonD (fiF, fiN, fiD) many) n ((a : Int) + 1) (up1 ev (a : Int) c)) c = none := fun hfault => findE_none n _ _ (fun ev1 z1 z2 => by
              rw [show many = a + 1 + n by omega]
              exact good_fault (n := n) (ev := up1 ev (a : Int) c) hE1 (fun i y1 y2 => (hev2 i y1 y2).1) (fun i y1 y2 => z1 i (by omega)) hpre1 hpt hfault)
            have hB0 : arB0 = arB0 := rfl
            rcases hADD with ⟨v1, v2, v3, v4, v5⟩ | ⟨hf, ⟨v1, v2, v3, v4, v5⟩ | ⟨F2, N2, D2, hcc, wN2, ⟨v1, q9, v2, q1, q2, v3, v3b, v4, v5, v7, v8, v9⟩ | ⟨v1, v2, v3, v4⟩⟩⟩
            · skip
              have hnn : (fun c => findE (GoodE actions (fun S a t => fit needs needTime needOf needHow needN needD S.1 S.2.1 S.2.2 a t) (fun S a t => chAll changeTime changeOf changeHow changeN changeD t (changes a).toNat (6 * a) S) (fun S a => (lbN lastOf lastN lastD epsilonN epsilonD S.2.1 S.2.2 a, lbD lastOf lastN lastD epsilonN epsilonD S.2.1 S.2.2 a, gbN lastOf lastN lastD S.2.1 S.2.2 a, gbD lastOf lastN lastD S.2.1 S.2.2 a)) (fun S => goal wishes wants wantN wantD S.1 S.2.1 S.2.2) (fun a t b u => interf needs needTime needHow needOf lastOf changes changeTime changeHow changeOf a t b u) epsilonN epsilonD (fiF, fiN, fiD) many) n ((a : Int) + 1) (up1 ev (a : Int) c)) c = none := hbadno (Or.inl (by rw [hS]; exact v2))
              subst v1
              subst v4
              have v9 : ArI A T (intP A needs needTime needHow needOf lastOf changes changeTime changeHow changeOf) (a : Int) σ (β a) arBa arMa arRa arLa arAa arSa leNa leDa grNa grDa arHa stFa stNa stDa := v5.ext (fun i z1 z2 => (hT0 _ i z1 z2).symm) (fun s z1 z2 => (hAe s z1 ((hgT _ _).mp z2)).symm) (fun i j z1 z2 z3 z4 => by
                unfold intP
                rw [hT0 _ i z1 z2, hT0 _ j z3 z4, hAb i z1 z2, hAb j z3 z4])
              have hBa : arBa = m := by rw [v9.2.2.1, ← hai.2.2.1]; exact hB
              rcases ihq (c + 1) (a : Int) arFa arU0 arT0 shN0 shD0 arLU0 arGU0 arBa arMa arRa arLa arAa arSa leNa leDa grNa grDa arHa stFa stNa stDa (by omega) (by omega) (fun z => hmb (by omega)) rfl hBa v9 with ⟨ev', f1, arP1, arF1, arU1, arT1, shN1, shD1, arLU1, arGU1, arB1, arM1, arR1, arL1, arA1, arS1, leN1, leD1, grN1, grD1, arH1, stF1, stN1, stD1, f2, ht⟩ | ⟨f1, arP1, arF1, arU1, arT1, shN1, shD1, arLU1, arGU1, arB1, arM1, arR1, arL1, arA1, arS1, leN1, leD1, grN1, grD1, arH1, stF1, stN1, stD1, f2, f3, ht⟩
              · refine Or.inl ⟨ev', (skip hnn).trans f1, arP1, arF1, arU1, arT1, shN1, shD1, arLU1, arGU1, arB1, arM1, arR1, arL1, arA1, arS1, leN1, leD1, grN1, grD1, arH1, stF1, stN1, stD1, f2, ?_⟩
                refine Rg.step 55 F_PJ_completes_53 rfl (fun _ => rfl) ?_
                refine Rg.bip 57 F_PJ_completes_55 rfl rfl ?_
                refine Rg.step 58 F_PJ_completes_57 rfl (fun _ => rfl) ?_
                refine Rg.addI 59 F_PJ_completes_58 rfl ?_
                refine Rg.icgeI 195 62 F_PJ_completes_59 rfl rfl (by omega) (by omega) (fun h59 => by omega) (fun _ => ?_)
                refine Rg.step 64 F_PJ_completes_62 rfl (fun _ => rfl) ?_
                refine Rg.bip 66 F_PJ_completes_64 rfl rfl ?_
                refine Rg.icgeI 73 69 F_PJ_completes_66 rfl rfl (by omega) (by omega) (fun h66 => by omega) (fun _ => ?_)
                refine Rg.step 70 F_PJ_completes_69 rfl (fun _ => rfl) ?_
                refine Rg.step 74 F_PJ_completes_70 rfl (fun _ => rfl) ?_
                refine Rg.step 76 F_PJ_completes_74 rfl (fun _ => rfl) ?_
                refine Rg.step 78 F_PJ_completes_76 rfl (fun _ => rfl) ?_
                refine Rg.ifeqI 85 81 F_PJ_completes_78 rfl rfl (by omega) (fun h78 => by omega) (fun _ => ?_)
                refine Rg.step 82 F_PJ_completes_81 rfl (fun _ => rfl) ?_
                refine Rg.step 90 F_PJ_completes_82 rfl (fun _ => rfl) ?_
                refine Rg.step 92 F_PJ_completes_90 rfl (fun _ => rfl) ?_
                refine Rg.step 94 F_PJ_completes_92 rfl (fun _ => rfl) ?_
                refine Rg.ifeqI 112 97 F_PJ_completes_94 rfl rfl (by omega) (fun h94 => by omega) (fun _ => ?_)
                refine Rg.step 99 F_PJ_completes_97 rfl (fun _ => rfl) ?_
                refine Rg.step 100 F_PJ_completes_99 rfl (fun _ => rfl) ?_
                refine Rg.getf 103 F_PJ_completes_100 rfl rF_1_105 gC_6 rfl ?_
                refine Rg.call 106 F_PJ_completes_103 rfl (one_V rM_1_109 (by decide) (by simp) rfl rfl gC_7 rfl) (Nat.le_of_ble_eq_true rfl) (Cg.any c_list_size) ?_
                refine Rg.icgeI 189 109 F_PJ_completes_106 rfl rfl (by omega) (by omega) (fun h106 => by omega) (fun _ => ?_)
                refine Rg.step 121 F_PJ_completes_109 rfl (fun _ => rfl) ?_
                refine Rg.step 123 F_PJ_completes_121 rfl (fun _ => rfl) ?_
                refine Rg.ifeqI 133 126 F_PJ_completes_123 rfl rfl (by omega) (fun h123 => by omega) (fun _ => ?_)
                refine Rg.step 127 F_PJ_completes_126 rfl (fun _ => rfl) ?_
                refine Rg.step 129 F_PJ_completes_127 rfl (fun _ => rfl) ?_
                refine Rg.mulI 130 F_PJ_completes_129 rfl ?_
                refine Rg.step 139 F_PJ_completes_130 rfl (fun _ => rfl) ?_
                refine Rg.step 141 F_PJ_completes_139 rfl (fun _ => rfl) ?_
                refine Rg.step 143 F_PJ_completes_141 rfl (fun _ => rfl) ?_
                refine Rg.ifeqI 151 146 F_PJ_completes_143 rfl rfl (by omega) (fun h143 => by omega) (fun _ => ?_)
                refine Rg.step 148 F_PJ_completes_146 rfl (fun _ => rfl) ?_
                refine Rg.step 158 F_PJ_completes_148 rfl (fun _ => rfl) ?_
                refine Rg.step 160 F_PJ_completes_158 rfl (fun _ => rfl) ?_
                refine Rg.step 161 F_PJ_completes_160 rfl (fun _ => rfl) ?_
                refine Rg.step 162 F_PJ_completes_161 rfl (fun _ => rfl) ?_
                refine Rg.step 164 F_PJ_completes_162 rfl (fun _ => rfl) ?_
                refine Rg.step 166 F_PJ_completes_164 rfl (fun _ => rfl) ?_
                refine Rg.call 169 F_PJ_completes_166 rfl (one_V rM_1_282 (by decide) (by simp) rfl rfl gC_49 rfl) (Nat.le_of_ble_eq_true rfl) hc1 ?_
                refine Rg.ifneI 189 172 F_PJ_completes_169 rfl rfl (by omega) (fun _ => ?_) (fun h169 => by omega)
                refine Rg.inc 192 F_PJ_completes_189 rfl rfl (by decide) ?_
                refine Rg.step 53 F_PJ_completes_192 rfl (fun _ => rfl) ?_
                exact Rg.weak ht (by simp [lput1, lput2, Value.category, fi0, fi1, fi2, fi3] <;> first | rfl | exact ⟨rfl, rfl⟩) (by simp [lput1, lput2, Value.category, fi0, fi1, fi2, fi3] <;> first | rfl | exact ⟨rfl, rfl⟩)
              · refine Or.inr ⟨(skip hnn).trans f1, arP1, arF1, arU1, arT1, shN1, shD1, arLU1, arGU1, arB1, arM1, arR1, arL1, arA1, arS1, leN1, leD1, grN1, grD1, arH1, stF1, stN1, stD1, f2, f3, ?_⟩
                refine Rg.step 55 F_PJ_completes_53 rfl (fun _ => rfl) ?_
                refine Rg.bip 57 F_PJ_completes_55 rfl rfl ?_
                refine Rg.step 58 F_PJ_completes_57 rfl (fun _ => rfl) ?_
                refine Rg.addI 59 F_PJ_completes_58 rfl ?_
                refine Rg.icgeI 195 62 F_PJ_completes_59 rfl rfl (by omega) (by omega) (fun h59 => by omega) (fun _ => ?_)
                refine Rg.step 64 F_PJ_completes_62 rfl (fun _ => rfl) ?_
                refine Rg.bip 66 F_PJ_completes_64 rfl rfl ?_
                refine Rg.icgeI 73 69 F_PJ_completes_66 rfl rfl (by omega) (by omega) (fun h66 => by omega) (fun _ => ?_)
                refine Rg.step 70 F_PJ_completes_69 rfl (fun _ => rfl) ?_
                refine Rg.step 74 F_PJ_completes_70 rfl (fun _ => rfl) ?_
                refine Rg.step 76 F_PJ_completes_74 rfl (fun _ => rfl) ?_
                refine Rg.step 78 F_PJ_completes_76 rfl (fun _ => rfl) ?_
                refine Rg.ifeqI 85 81 F_PJ_completes_78 rfl rfl (by omega) (fun h78 => by omega) (fun _ => ?_)
                refine Rg.step 82 F_PJ_completes_81 rfl (fun _ => rfl) ?_
                refine Rg.step 90 F_PJ_completes_82 rfl (fun _ => rfl) ?_
                refine Rg.step 92 F_PJ_completes_90 rfl (fun _ => rfl) ?_
                refine Rg.step 94 F_PJ_completes_92 rfl (fun _ => rfl) ?_
                refine Rg.ifeqI 112 97 F_PJ_completes_94 rfl rfl (by omega) (fun h94 => by omega) (fun _ => ?_)
                refine Rg.step 99 F_PJ_completes_97 rfl (fun _ => rfl) ?_
                refine Rg.step 100 F_PJ_completes_99 rfl (fun _ => rfl) ?_
                refine Rg.getf 103 F_PJ_completes_100 rfl rF_1_105 gC_6 rfl ?_
                refine Rg.call 106 F_PJ_completes_103 rfl (one_V rM_1_109 (by decide) (by simp) rfl rfl gC_7 rfl) (Nat.le_of_ble_eq_true rfl) (Cg.any c_list_size) ?_
                refine Rg.icgeI 189 109 F_PJ_completes_106 rfl rfl (by omega) (by omega) (fun h106 => by omega) (fun _ => ?_)
                refine Rg.step 121 F_PJ_completes_109 rfl (fun _ => rfl) ?_
                refine Rg.step 123 F_PJ_completes_121 rfl (fun _ => rfl) ?_
                refine Rg.ifeqI 133 126 F_PJ_completes_123 rfl rfl (by omega) (fun h123 => by omega) (fun _ => ?_)
                refine Rg.step 127 F_PJ_completes_126 rfl (fun _ => rfl) ?_
                refine Rg.step 129 F_PJ_completes_127 rfl (fun _ => rfl) ?_
                refine Rg.mulI 130 F_PJ_completes_129 rfl ?_
                refine Rg.step 139 F_PJ_completes_130 rfl (fun _ => rfl) ?_
                refine Rg.step 141 F_PJ_completes_139 rfl (fun _ => rfl) ?_
                refine Rg.step 143 F_PJ_completes_141 rfl (fun _ => rfl) ?_
                refine Rg.ifeqI 151 146 F_PJ_completes_143 rfl rfl (by omega) (fun h143 => by omega) (fun _ => ?_)
                refine Rg.step 148 F_PJ_completes_146 rfl (fun _ => rfl) ?_
                refine Rg.step 158 F_PJ_completes_148 rfl (fun _ => rfl) ?_
                refine Rg.step 160 F_PJ_completes_158 rfl (fun _ => rfl) ?_
                refine Rg.step 161 F_PJ_completes_160 rfl (fun _ => rfl) ?_
                refine Rg.step 162 F_PJ_completes_161 rfl (fun _ => rfl) ?_
                refine Rg.step 164 F_PJ_completes_162 rfl (fun _ => rfl) ?_
                refine Rg.step 166 F_PJ_completes_164 rfl (fun _ => rfl) ?_
                refine Rg.call 169 F_PJ_completes_166 rfl (one_V rM_1_282 (by decide) (by simp) rfl rfl gC_49 rfl) (Nat.le_of_ble_eq_true rfl) hc1 ?_
                refine Rg.ifneI 189 172 F_PJ_completes_169 rfl rfl (by omega) (fun _ => ?_) (fun h169 => by omega)
                refine Rg.inc 192 F_PJ_completes_189 rfl rfl (by decide) ?_
                refine Rg.step 53 F_PJ_completes_192 rfl (fun _ => rfl) ?_
                exact Rg.weak ht (by simp [lput1, lput2, Value.category, fi0, fi1, fi2, fi3] <;> first | rfl | exact ⟨rfl, rfl⟩) (by simp [lput1, lput2, Value.category, fi0, fi1, fi2, fi3] <;> first | rfl | exact ⟨rfl, rfl⟩)
            · skip
              have hnn : (fun c => findE (GoodE actions (fun S a t => fit needs needTime needOf needHow needN needD S.1 S.2.1 S.2.2 a t) (fun S a t => chAll changeTime changeOf changeHow changeN changeD t (changes a).toNat (6 * a) S) (fun S a => (lbN lastOf lastN lastD epsilonN epsilonD S.2.1 S.2.2 a, lbD lastOf lastN lastD epsilonN epsilonD S.2.1 S.2.2 a, gbN lastOf lastN lastD S.2.1 S.2.2 a, gbD lastOf lastN lastD S.2.1 S.2.2 a)) (fun S => goal wishes wants wantN wantD S.1 S.2.1 S.2.2) (fun a t b u => interf needs needTime needHow needOf lastOf changes changeTime changeHow changeOf a t b u) epsilonN epsilonD (fiF, fiN, fiD) many) n ((a : Int) + 1) (up1 ev (a : Int) c)) c = none := hbadno (Or.inr ⟨by rw [hS]; exact hf, Or.inl (by rw [hS]; exact v2)⟩)
              subst v1
              subst v4
              have v9 : ArI A T (intP A needs needTime needHow needOf lastOf changes changeTime changeHow changeOf) (a : Int) σ (β a) arBa arMa arRa arLa arAa arSa leNa leDa grNa grDa arHa stFa stNa stDa := v5.ext (fun i z1 z2 => (hT0 _ i z1 z2).symm) (fun s z1 z2 => (hAe s z1 ((hgT _ _).mp z2)).symm) (fun i j z1 z2 z3 z4 => by
                unfold intP
                rw [hT0 _ i z1 z2, hT0 _ j z3 z4, hAb i z1 z2, hAb j z3 z4])
              have hBa : arBa = m := by rw [v9.2.2.1, ← hai.2.2.1]; exact hB
              rcases ihq (c + 1) (a : Int) arFa arU0 arT0 shN0 shD0 arLU0 arGU0 arBa arMa arRa arLa arAa arSa leNa leDa grNa grDa arHa stFa stNa stDa (by omega) (by omega) (fun z => hmb (by omega)) rfl hBa v9 with ⟨ev', f1, arP1, arF1, arU1, arT1, shN1, shD1, arLU1, arGU1, arB1, arM1, arR1, arL1, arA1, arS1, leN1, leD1, grN1, grD1, arH1, stF1, stN1, stD1, f2, ht⟩ | ⟨f1, arP1, arF1, arU1, arT1, shN1, shD1, arLU1, arGU1, arB1, arM1, arR1, arL1, arA1, arS1, leN1, leD1, grN1, grD1, arH1, stF1, stN1, stD1, f2, f3, ht⟩
              · refine Or.inl ⟨ev', (skip hnn).trans f1, arP1, arF1, arU1, arT1, shN1, shD1, arLU1, arGU1, arB1, arM1, arR1, arL1, arA1, arS1, leN1, leD1, grN1, grD1, arH1, stF1, stN1, stD1, f2, ?_⟩
                refine Rg.step 55 F_PJ_completes_53 rfl (fun _ => rfl) ?_
                refine Rg.bip 57 F_PJ_completes_55 rfl rfl ?_
                refine Rg.step 58 F_PJ_completes_57 rfl (fun _ => rfl) ?_
                refine Rg.addI 59 F_PJ_completes_58 rfl ?_
                refine Rg.icgeI 195 62 F_PJ_completes_59 rfl rfl (by omega) (by omega) (fun h59 => by omega) (fun _ => ?_)
                refine Rg.step 64 F_PJ_completes_62 rfl (fun _ => rfl) ?_
                refine Rg.bip 66 F_PJ_completes_64 rfl rfl ?_
                refine Rg.icgeI 73 69 F_PJ_completes_66 rfl rfl (by omega) (by omega) (fun h66 => by omega) (fun _ => ?_)
                refine Rg.step 70 F_PJ_completes_69 rfl (fun _ => rfl) ?_
                refine Rg.step 74 F_PJ_completes_70 rfl (fun _ => rfl) ?_
                refine Rg.step 76 F_PJ_completes_74 rfl (fun _ => rfl) ?_
                refine Rg.step 78 F_PJ_completes_76 rfl (fun _ => rfl) ?_
                refine Rg.ifeqI 85 81 F_PJ_completes_78 rfl rfl (by omega) (fun h78 => by omega) (fun _ => ?_)
                refine Rg.step 82 F_PJ_completes_81 rfl (fun _ => rfl) ?_
                refine Rg.step 90 F_PJ_completes_82 rfl (fun _ => rfl) ?_
                refine Rg.step 92 F_PJ_completes_90 rfl (fun _ => rfl) ?_
                refine Rg.step 94 F_PJ_completes_92 rfl (fun _ => rfl) ?_
                refine Rg.ifeqI 112 97 F_PJ_completes_94 rfl rfl (by omega) (fun h94 => by omega) (fun _ => ?_)
                refine Rg.step 99 F_PJ_completes_97 rfl (fun _ => rfl) ?_
                refine Rg.step 100 F_PJ_completes_99 rfl (fun _ => rfl) ?_
                refine Rg.getf 103 F_PJ_completes_100 rfl rF_1_105 gC_6 rfl ?_
                refine Rg.call 106 F_PJ_completes_103 rfl (one_V rM_1_109 (by decide) (by simp) rfl rfl gC_7 rfl) (Nat.le_of_ble_eq_true rfl) (Cg.any c_list_size) ?_
                refine Rg.icgeI 189 109 F_PJ_completes_106 rfl rfl (by omega) (by omega) (fun h106 => by omega) (fun _ => ?_)
                refine Rg.step 121 F_PJ_completes_109 rfl (fun _ => rfl) ?_
                refine Rg.step 123 F_PJ_completes_121 rfl (fun _ => rfl) ?_
                refine Rg.ifeqI 133 126 F_PJ_completes_123 rfl rfl (by omega) (fun h123 => by omega) (fun _ => ?_)
                refine Rg.step 127 F_PJ_completes_126 rfl (fun _ => rfl) ?_
                refine Rg.step 129 F_PJ_completes_127 rfl (fun _ => rfl) ?_
                refine Rg.mulI 130 F_PJ_completes_129 rfl ?_
                refine Rg.step 139 F_PJ_completes_130 rfl (fun _ => rfl) ?_
                refine Rg.step 141 F_PJ_completes_139 rfl (fun _ => rfl) ?_
                refine Rg.step 143 F_PJ_completes_141 rfl (fun _ => rfl) ?_
                refine Rg.ifeqI 151 146 F_PJ_completes_143 rfl rfl (by omega) (fun h143 => by omega) (fun _ => ?_)
                refine Rg.step 148 F_PJ_completes_146 rfl (fun _ => rfl) ?_
                refine Rg.step 158 F_PJ_completes_148 rfl (fun _ => rfl) ?_
                refine Rg.step 160 F_PJ_completes_158 rfl (fun _ => rfl) ?_
                refine Rg.step 161 F_PJ_completes_160 rfl (fun _ => rfl) ?_
                refine Rg.step 162 F_PJ_completes_161 rfl (fun _ => rfl) ?_
                refine Rg.step 164 F_PJ_completes_162 rfl (fun _ => rfl) ?_
                refine Rg.step 166 F_PJ_completes_164 rfl (fun _ => rfl) ?_
                refine Rg.call 169 F_PJ_completes_166 rfl (one_V rM_1_282 (by decide) (by simp) rfl rfl gC_49 rfl) (Nat.le_of_ble_eq_true rfl) hc1 ?_
                refine Rg.ifneI 189 172 F_PJ_completes_169 rfl rfl (by omega) (fun _ => ?_) (fun h169 => by omega)
                refine Rg.inc 192 F_PJ_completes_189 rfl rfl (by decide) ?_
                refine Rg.step 53 F_PJ_completes_192 rfl (fun _ => rfl) ?_
                exact Rg.weak ht (by simp [lput1, lput2, Value.category, fi0, fi1, fi2, fi3] <;> first | rfl | exact ⟨rfl, rfl⟩) (by simp [lput1, lput2, Value.category, fi0, fi1, fi2, fi3] <;> first | rfl | exact ⟨rfl, rfl⟩)
              · refine Or.inr ⟨(skip hnn).trans f1, arP1, arF1, arU1, arT1, shN1, shD1, arLU1, arGU1, arB1, arM1, arR1, arL1, arA1, arS1, leN1, leD1, grN1, grD1, arH1, stF1, stN1, stD1, f2, f3, ?_⟩
                refine Rg.step 55 F_PJ_completes_53 rfl (fun _ => rfl) ?_
                refine Rg.bip 57 F_PJ_completes_55 rfl rfl ?_
                refine Rg.step 58 F_PJ_completes_57 rfl (fun _ => rfl) ?_
                refine Rg.addI 59 F_PJ_completes_58 rfl ?_
                refine Rg.icgeI 195 62 F_PJ_completes_59 rfl rfl (by omega) (by omega) (fun h59 => by omega) (fun _ => ?_)
                refine Rg.step 64 F_PJ_completes_62 rfl (fun _ => rfl) ?_
                refine Rg.bip 66 F_PJ_completes_64 rfl rfl ?_
                refine Rg.icgeI 73 69 F_PJ_completes_66 rfl rfl (by omega) (by omega) (fun h66 => by omega) (fun _ => ?_)
                refine Rg.step 70 F_PJ_completes_69 rfl (fun _ => rfl) ?_
                refine Rg.step 74 F_PJ_completes_70 rfl (fun _ => rfl) ?_
                refine Rg.step 76 F_PJ_completes_74 rfl (fun _ => rfl) ?_
                refine Rg.step 78 F_PJ_completes_76 rfl (fun _ => rfl) ?_
                refine Rg.ifeqI 85 81 F_PJ_completes_78 rfl rfl (by omega) (fun h78 => by omega) (fun _ => ?_)
                refine Rg.step 82 F_PJ_completes_81 rfl (fun _ => rfl) ?_
                refine Rg.step 90 F_PJ_completes_82 rfl (fun _ => rfl) ?_
                refine Rg.step 92 F_PJ_completes_90 rfl (fun _ => rfl) ?_
                refine Rg.step 94 F_PJ_completes_92 rfl (fun _ => rfl) ?_
                refine Rg.ifeqI 112 97 F_PJ_completes_94 rfl rfl (by omega) (fun h94 => by omega) (fun _ => ?_)
                refine Rg.step 99 F_PJ_completes_97 rfl (fun _ => rfl) ?_
                refine Rg.step 100 F_PJ_completes_99 rfl (fun _ => rfl) ?_
                refine Rg.getf 103 F_PJ_completes_100 rfl rF_1_105 gC_6 rfl ?_
                refine Rg.call 106 F_PJ_completes_103 rfl (one_V rM_1_109 (by decide) (by simp) rfl rfl gC_7 rfl) (Nat.le_of_ble_eq_true rfl) (Cg.any c_list_size) ?_
                refine Rg.icgeI 189 109 F_PJ_completes_106 rfl rfl (by omega) (by omega) (fun h106 => by omega) (fun _ => ?_)
                refine Rg.step 121 F_PJ_completes_109 rfl (fun _ => rfl) ?_
                refine Rg.step 123 F_PJ_completes_121 rfl (fun _ => rfl) ?_
                refine Rg.ifeqI 133 126 F_PJ_completes_123 rfl rfl (by omega) (fun h123 => by omega) (fun _ => ?_)
                refine Rg.step 127 F_PJ_completes_126 rfl (fun _ => rfl) ?_
                refine Rg.step 129 F_PJ_completes_127 rfl (fun _ => rfl) ?_
                refine Rg.mulI 130 F_PJ_completes_129 rfl ?_
                refine Rg.step 139 F_PJ_completes_130 rfl (fun _ => rfl) ?_
                refine Rg.step 141 F_PJ_completes_139 rfl (fun _ => rfl) ?_
                refine Rg.step 143 F_PJ_completes_141 rfl (fun _ => rfl) ?_
                refine Rg.ifeqI 151 146 F_PJ_completes_143 rfl rfl (by omega) (fun h143 => by omega) (fun _ => ?_)
                refine Rg.step 148 F_PJ_completes_146 rfl (fun _ => rfl) ?_
                refine Rg.step 158 F_PJ_completes_148 rfl (fun _ => rfl) ?_
                refine Rg.step 160 F_PJ_completes_158 rfl (fun _ => rfl) ?_
                refine Rg.step 161 F_PJ_completes_160 rfl (fun _ => rfl) ?_
                refine Rg.step 162 F_PJ_completes_161 rfl (fun _ => rfl) ?_
                refine Rg.step 164 F_PJ_completes_162 rfl (fun _ => rfl) ?_
                refine Rg.step 166 F_PJ_completes_164 rfl (fun _ => rfl) ?_
                refine Rg.call 169 F_PJ_completes_166 rfl (one_V rM_1_282 (by decide) (by simp) rfl rfl gC_49 rfl) (Nat.le_of_ble_eq_true rfl) hc1 ?_
                refine Rg.ifneI 189 172 F_PJ_completes_169 rfl rfl (by omega) (fun _ => ?_) (fun h169 => by omega)
                refine Rg.inc 192 F_PJ_completes_189 rfl rfl (by decide) ?_
                refine Rg.step 53 F_PJ_completes_192 rfl (fun _ => rfl) ?_
                exact Rg.weak ht (by simp [lput1, lput2, Value.category, fi0, fi1, fi2, fi3] <;> first | rfl | exact ⟨rfl, rfl⟩) (by simp [lput1, lput2, Value.category, fi0, fi1, fi2, fi3] <;> first | rfl | exact ⟨rfl, rfl⟩)
            · skip
              have hq9 : q9 < (m + 1) := by
                obtain ⟨i, y1, y2, y3⟩ := v3.1
                have := hpt i y1 y2
                omega
              have hnn : (fun c => findE (GoodE actions (fun S a t => fit needs needTime needOf needHow needN needD S.1 S.2.1 S.2.2 a t) (fun S a t => chAll changeTime changeOf changeHow changeN changeD t (changes a).toNat (6 * a) S) (fun S a => (lbN lastOf lastN lastD epsilonN epsilonD S.2.1 S.2.2 a, lbD lastOf lastN lastD epsilonN epsilonD S.2.1 S.2.2 a, gbN lastOf lastN lastD S.2.1 S.2.2 a, gbD lastOf lastN lastD S.2.1 S.2.2 a)) (fun S => goal wishes wants wantN wantD S.1 S.2.1 S.2.2) (fun a t b u => interf needs needTime needHow needOf lastOf changes changeTime changeHow changeOf a t b u) epsilonN epsilonD (fiF, fiN, fiD) many) n ((a : Int) + 1) (up1 ev (a : Int) c)) c = none := hbadno (Or.inr ⟨by rw [hS]; exact hf, Or.inr ⟨(F2, N2, D2), by rw [hS]; exact hcc, q9, q1, hq9, v3, v3b⟩⟩)
              subst v1
              subst v4
              have v9 : ArI A T (intP A needs needTime needHow needOf lastOf changes changeTime changeHow changeOf) (a : Int) σ (β a) arBa arMa arRa arLa arAa arSa leNa leDa grNa grDa arHa stFa stNa stDa := v5.ext (fun i z1 z2 => (hT0 _ i z1 z2).symm) (fun s z1 z2 => (hAe s z1 ((hgT _ _).mp z2)).symm) (fun i j z1 z2 z3 z4 => by
                unfold intP
                rw [hT0 _ i z1 z2, hT0 _ j z3 z4, hAb i z1 z2, hAb j z3 z4])
              have hBa : arBa = m := by rw [v9.2.2.1, ← hai.2.2.1]; exact hB
              rcases ihq (c + 1) (a : Int) arFa arU0 arT0 shN0 shD0 arLU0 arGU0 arBa arMa arRa arLa arAa arSa leNa leDa grNa grDa arHa stFa stNa stDa (by omega) (by omega) (fun z => hmb (by omega)) rfl hBa v9 with ⟨ev', f1, arP1, arF1, arU1, arT1, shN1, shD1, arLU1, arGU1, arB1, arM1, arR1, arL1, arA1, arS1, leN1, leD1, grN1, grD1, arH1, stF1, stN1, stD1, f2, ht⟩ | ⟨f1, arP1, arF1, arU1, arT1, shN1, shD1, arLU1, arGU1, arB1, arM1, arR1, arL1, arA1, arS1, leN1, leD1, grN1, grD1, arH1, stF1, stN1, stD1, f2, f3, ht⟩
              · refine Or.inl ⟨ev', (skip hnn).trans f1, arP1, arF1, arU1, arT1, shN1, shD1, arLU1, arGU1, arB1, arM1, arR1, arL1, arA1, arS1, leN1, leD1, grN1, grD1, arH1, stF1, stN1, stD1, f2, ?_⟩
                refine Rg.step 55 F_PJ_completes_53 rfl (fun _ => rfl) ?_
                refine Rg.bip 57 F_PJ_completes_55 rfl rfl ?_
                refine Rg.step 58 F_PJ_completes_57 rfl (fun _ => rfl) ?_
                refine Rg.addI 59 F_PJ_completes_58 rfl ?_
                refine Rg.icgeI 195 62 F_PJ_completes_59 rfl rfl (by omega) (by omega) (fun h59 => by omega) (fun _ => ?_)
                refine Rg.step 64 F_PJ_completes_62 rfl (fun _ => rfl) ?_
                refine Rg.bip 66 F_PJ_completes_64 rfl rfl ?_
                refine Rg.icgeI 73 69 F_PJ_completes_66 rfl rfl (by omega) (by omega) (fun h66 => by omega) (fun _ => ?_)
                refine Rg.step 70 F_PJ_completes_69 rfl (fun _ => rfl) ?_
                refine Rg.step 74 F_PJ_completes_70 rfl (fun _ => rfl) ?_
                refine Rg.step 76 F_PJ_completes_74 rfl (fun _ => rfl) ?_
                refine Rg.step 78 F_PJ_completes_76 rfl (fun _ => rfl) ?_
                refine Rg.ifeqI 85 81 F_PJ_completes_78 rfl rfl (by omega) (fun h78 => by omega) (fun _ => ?_)
                refine Rg.step 82 F_PJ_completes_81 rfl (fun _ => rfl) ?_
                refine Rg.step 90 F_PJ_completes_82 rfl (fun _ => rfl) ?_
                refine Rg.step 92 F_PJ_completes_90 rfl (fun _ => rfl) ?_
                refine Rg.step 94 F_PJ_completes_92 rfl (fun _ => rfl) ?_
                refine Rg.ifeqI 112 97 F_PJ_completes_94 rfl rfl (by omega) (fun h94 => by omega) (fun _ => ?_)
                refine Rg.step 99 F_PJ_completes_97 rfl (fun _ => rfl) ?_
                refine Rg.step 100 F_PJ_completes_99 rfl (fun _ => rfl) ?_
                refine Rg.getf 103 F_PJ_completes_100 rfl rF_1_105 gC_6 rfl ?_
                refine Rg.call 106 F_PJ_completes_103 rfl (one_V rM_1_109 (by decide) (by simp) rfl rfl gC_7 rfl) (Nat.le_of_ble_eq_true rfl) (Cg.any c_list_size) ?_
                refine Rg.icgeI 189 109 F_PJ_completes_106 rfl rfl (by omega) (by omega) (fun h106 => by omega) (fun _ => ?_)
                refine Rg.step 121 F_PJ_completes_109 rfl (fun _ => rfl) ?_
                refine Rg.step 123 F_PJ_completes_121 rfl (fun _ => rfl) ?_
                refine Rg.ifeqI 133 126 F_PJ_completes_123 rfl rfl (by omega) (fun h123 => by omega) (fun _ => ?_)
                refine Rg.step 127 F_PJ_completes_126 rfl (fun _ => rfl) ?_
                refine Rg.step 129 F_PJ_completes_127 rfl (fun _ => rfl) ?_
                refine Rg.mulI 130 F_PJ_completes_129 rfl ?_
                refine Rg.step 139 F_PJ_completes_130 rfl (fun _ => rfl) ?_
                refine Rg.step 141 F_PJ_completes_139 rfl (fun _ => rfl) ?_
                refine Rg.step 143 F_PJ_completes_141 rfl (fun _ => rfl) ?_
                refine Rg.ifeqI 151 146 F_PJ_completes_143 rfl rfl (by omega) (fun h143 => by omega) (fun _ => ?_)
                refine Rg.step 148 F_PJ_completes_146 rfl (fun _ => rfl) ?_
                refine Rg.step 158 F_PJ_completes_148 rfl (fun _ => rfl) ?_
                refine Rg.step 160 F_PJ_completes_158 rfl (fun _ => rfl) ?_
                refine Rg.step 161 F_PJ_completes_160 rfl (fun _ => rfl) ?_
                refine Rg.step 162 F_PJ_completes_161 rfl (fun _ => rfl) ?_
                refine Rg.step 164 F_PJ_completes_162 rfl (fun _ => rfl) ?_
                refine Rg.step 166 F_PJ_completes_164 rfl (fun _ => rfl) ?_
                refine Rg.call 169 F_PJ_completes_166 rfl (one_V rM_1_282 (by decide) (by simp) rfl rfl gC_49 rfl) (Nat.le_of_ble_eq_true rfl) hc1 ?_
                refine Rg.ifneI 189 172 F_PJ_completes_169 rfl rfl (by omega) (fun _ => ?_) (fun h169 => by omega)
                refine Rg.inc 192 F_PJ_completes_189 rfl rfl (by decide) ?_
                refine Rg.step 53 F_PJ_completes_192 rfl (fun _ => rfl) ?_
                exact Rg.weak ht (by simp [lput1, lput2, Value.category, fi0, fi1, fi2, fi3] <;> first | rfl | exact ⟨rfl, rfl⟩) (by simp [lput1, lput2, Value.category, fi0, fi1, fi2, fi3] <;> first | rfl | exact ⟨rfl, rfl⟩)
              · refine Or.inr ⟨(skip hnn).trans f1, arP1, arF1, arU1, arT1, shN1, shD1, arLU1, arGU1, arB1, arM1, arR1, arL1, arA1, arS1, leN1, leD1, grN1, grD1, arH1, stF1, stN1, stD1, f2, f3, ?_⟩
                refine Rg.step 55 F_PJ_completes_53 rfl (fun _ => rfl) ?_
                refine Rg.bip 57 F_PJ_completes_55 rfl rfl ?_
                refine Rg.step 58 F_PJ_completes_57 rfl (fun _ => rfl) ?_
                refine Rg.addI 59 F_PJ_completes_58 rfl ?_
                refine Rg.icgeI 195 62 F_PJ_completes_59 rfl rfl (by omega) (by omega) (fun h59 => by omega) (fun _ => ?_)
                refine Rg.step 64 F_PJ_completes_62 rfl (fun _ => rfl) ?_
                refine Rg.bip 66 F_PJ_completes_64 rfl rfl ?_
                refine Rg.icgeI 73 69 F_PJ_completes_66 rfl rfl (by omega) (by omega) (fun h66 => by omega) (fun _ => ?_)
                refine Rg.step 70 F_PJ_completes_69 rfl (fun _ => rfl) ?_
                refine Rg.step 74 F_PJ_completes_70 rfl (fun _ => rfl) ?_
                refine Rg.step 76 F_PJ_completes_74 rfl (fun _ => rfl) ?_
                refine Rg.step 78 F_PJ_completes_76 rfl (fun _ => rfl) ?_
                refine Rg.ifeqI 85 81 F_PJ_completes_78 rfl rfl (by omega) (fun h78 => by omega) (fun _ => ?_)
                refine Rg.step 82 F_PJ_completes_81 rfl (fun _ => rfl) ?_
                refine Rg.step 90 F_PJ_completes_82 rfl (fun _ => rfl) ?_
                refine Rg.step 92 F_PJ_completes_90 rfl (fun _ => rfl) ?_
                refine Rg.step 94 F_PJ_completes_92 rfl (fun _ => rfl) ?_
                refine Rg.ifeqI 112 97 F_PJ_completes_94 rfl rfl (by omega) (fun h94 => by omega) (fun _ => ?_)
                refine Rg.step 99 F_PJ_completes_97 rfl (fun _ => rfl) ?_
                refine Rg.step 100 F_PJ_completes_99 rfl (fun _ => rfl) ?_
                refine Rg.getf 103 F_PJ_completes_100 rfl rF_1_105 gC_6 rfl ?_
                refine Rg.call 106 F_PJ_completes_103 rfl (one_V rM_1_109 (by decide) (by simp) rfl rfl gC_7 rfl) (Nat.le_of_ble_eq_true rfl) (Cg.any c_list_size) ?_
                refine Rg.icgeI 189 109 F_PJ_completes_106 rfl rfl (by omega) (by omega) (fun h106 => by omega) (fun _ => ?_)
                refine Rg.step 121 F_PJ_completes_109 rfl (fun _ => rfl) ?_
                refine Rg.step 123 F_PJ_completes_121 rfl (fun _ => rfl) ?_
                refine Rg.ifeqI 133 126 F_PJ_completes_123 rfl rfl (by omega) (fun h123 => by omega) (fun _ => ?_)
                refine Rg.step 127 F_PJ_completes_126 rfl (fun _ => rfl) ?_
                refine Rg.step 129 F_PJ_completes_127 rfl (fun _ => rfl) ?_
                refine Rg.mulI 130 F_PJ_completes_129 rfl ?_
                refine Rg.step 139 F_PJ_completes_130 rfl (fun _ => rfl) ?_
                refine Rg.step 141 F_PJ_completes_139 rfl (fun _ => rfl) ?_
                refine Rg.step 143 F_PJ_completes_141 rfl (fun _ => rfl) ?_
                refine Rg.ifeqI 151 146 F_PJ_completes_143 rfl rfl (by omega) (fun h143 => by omega) (fun _ => ?_)
                refine Rg.step 148 F_PJ_completes_146 rfl (fun _ => rfl) ?_
                refine Rg.step 158 F_PJ_completes_148 rfl (fun _ => rfl) ?_
                refine Rg.step 160 F_PJ_completes_158 rfl (fun _ => rfl) ?_
                refine Rg.step 161 F_PJ_completes_160 rfl (fun _ => rfl) ?_
                refine Rg.step 162 F_PJ_completes_161 rfl (fun _ => rfl) ?_
                refine Rg.step 164 F_PJ_completes_162 rfl (fun _ => rfl) ?_
                refine Rg.step 166 F_PJ_completes_164 rfl (fun _ => rfl) ?_
                refine Rg.call 169 F_PJ_completes_166 rfl (one_V rM_1_282 (by decide) (by simp) rfl rfl gC_49 rfl) (Nat.le_of_ble_eq_true rfl) hc1 ?_
                refine Rg.ifneI 189 172 F_PJ_completes_169 rfl rfl (by omega) (fun _ => ?_) (fun h169 => by omega)
                refine Rg.inc 192 F_PJ_completes_189 rfl rfl (by decide) ?_
                refine Rg.step 53 F_PJ_completes_192 rfl (fun _ => rfl) ?_
                exact Rg.weak ht (by simp [lput1, lput2, Value.category, fi0, fi1, fi2, fi3] <;> first | rfl | exact ⟨rfl, rfl⟩) (by simp [lput1, lput2, Value.category, fi0, fi1, fi2, fi3] <;> first | rfl | exact ⟨rfl, rfl⟩)
            · skip
              subst v1
              subst v3
              have hcast : ((a + 1 : Nat) : Int) = (a : Int) + 1 := by omega
              have hpre2 : PreOK (fun S a t => fit needs needTime needOf needHow needN needD S.1 S.2.1 S.2.2 a t) (fun S a t => chAll changeTime changeOf changeHow changeN changeD t (changes a).toNat (6 * a) S) (fun S a => (lbN lastOf lastN lastD epsilonN epsilonD S.2.1 S.2.2 a, lbD lastOf lastN lastD epsilonN epsilonD S.2.1 S.2.2 a, gbN lastOf lastN lastD S.2.1 S.2.2 a, gbD lastOf lastN lastD S.2.1 S.2.2 a)) (fiF, fiN, fiD) (up1 A m c) (up1 T (a : Int) (2 * m)) ((a + 1 : Nat) : Int) (up1 σ ((a : Int) + 1) (F2, N2, D2)) (up1 β ((a : Int) + 1) (if (up1 T (a : Int) (2 * m)) a % 2 = 0 then up1 (β a) ((up1 T (a : Int) (2 * m)) a / 2) (lbN lastOf lastN lastD epsilonN epsilonD (stN0 a) (stD0 a) ((up1 A m c) ((up1 T (a : Int) (2 * m)) a / 2)), lbD lastOf lastN lastD epsilonN epsilonD (stN0 a) (stD0 a) ((up1 A m c) ((up1 T (a : Int) (2 * m)) a / 2)), gbN lastOf lastN lastD (stN0 a) (stD0 a) ((up1 A m c) ((up1 T (a : Int) (2 * m)) a / 2)), gbD lastOf lastN lastD (stN0 a) (stD0 a) ((up1 A m c) ((up1 T (a : Int) (2 * m)) a / 2))) else β a)) := by
                rw [hcast]
                have hq := hpre1.step (S2 := (F2, N2, D2)) (by omega) (by rw [hS]; exact hf) (by rw [hS]; exact hcc) (fun s y1 y2 => by
                  have : s < 12 := by
                    obtain ⟨i, x1, x2, x3⟩ := y2.1
                    have := hpt i x1 x2
                    omega
                  exact v2 s y1 this y2)
                rw [hS] at hq
                exact hq
              have hok2 : ∀ k, 0 ≤ k → k < ((a + 1 : Nat) : Int) → RowOK (up1 T (a : Int) (2 * m)) (m + 1) k := fun k z1 z2 => by
                by_cases h : k = (a : Int)
                · rw [h]; exact hRk
                · exact (hok k z1 (by omega)).ext (by omega) (fun i y1 y2 => hT0 _ i y1 (by omega)) z1
              have hst2 : ∀ s, 0 ≤ s → s < (m + 1) → grp (up1 T (a : Int) (2 * m)) 0 ((a + 1 : Nat) : Int) (2 * s) := fun s z1 z2 => by
                rw [hcast, grp_1 (by omega), hgT, eT]
                by_cases h : s = m
                · exact Or.inr (by rw [h])
                · exact Or.inl (hst s z1 (by omega))
              have wNx : WN ((up1 σ ((a : Int) + 1) (F2, N2, D2)) ((a + 1 : Nat) : Int)).2.1 ((up1 σ ((a : Int) + 1) (F2, N2, D2)) ((a + 1 : Nat) : Int)).2.2 := by rw [hcast, up1_eq]; exact wN2
              have hai2 : ArI (up1 A m c) (up1 T (a : Int) (2 * m)) (intP (up1 A m c) needs needTime needHow needOf lastOf changes changeTime changeHow changeOf) ((a + 1 : Nat) : Int) (up1 σ ((a : Int) + 1) (F2, N2, D2)) ((up1 β ((a : Int) + 1) (if (up1 T (a : Int) (2 * m)) a % 2 = 0 then up1 (β a) ((up1 T (a : Int) (2 * m)) a / 2) (lbN lastOf lastN lastD epsilonN epsilonD (stN0 a) (stD0 a) ((up1 A m c) ((up1 T (a : Int) (2 * m)) a / 2)), lbD lastOf lastN lastD epsilonN epsilonD (stN0 a) (stD0 a) ((up1 A m c) ((up1 T (a : Int) (2 * m)) a / 2)), gbN lastOf lastN lastD (stN0 a) (stD0 a) ((up1 A m c) ((up1 T (a : Int) (2 * m)) a / 2)), gbD lastOf lastN lastD (stN0 a) (stD0 a) ((up1 A m c) ((up1 T (a : Int) (2 * m)) a / 2))) else β a)) ((a + 1 : Nat) : Int)) arBa arMa arRa arLa arAa arSa leNa leDa grNa grDa arHa stFa stNa stDa := by
                rw [hcast, up1_eq]
                exact v4
              have hrec := ih (a + 1) (up1 ev (a : Int) c) (m + 1) (up1 A m c) (up1 T (a : Int) (2 * m)) (up1 σ ((a : Int) + 1) (F2, N2, D2)) (up1 β ((a : Int) + 1) (if (up1 T (a : Int) (2 * m)) a % 2 = 0 then up1 (β a) ((up1 T (a : Int) (2 * m)) a / 2) (lbN lastOf lastN lastD epsilonN epsilonD (stN0 a) (stD0 a) ((up1 A m c) ((up1 T (a : Int) (2 * m)) a / 2)), lbD lastOf lastN lastD epsilonN epsilonD (stN0 a) (stD0 a) ((up1 A m c) ((up1 T (a : Int) (2 * m)) a / 2)), gbN lastOf lastN lastD (stN0 a) (stD0 a) ((up1 A m c) ((up1 T (a : Int) (2 * m)) a / 2)), gbD lastOf lastN lastD (stN0 a) (stD0 a) ((up1 A m c) ((up1 T (a : Int) (2 * m)) a / 2))) else β a)) ((a : Int) + 1) arFa arU0 arT0 shN0 shD0 arLU0 arGU0 arBa arMa arRa arLa arAa arSa leNa leDa grNa grDa arHa stFa stNa stDa (by omega) (by rw [hcast]; exact hE1) (by rw [hcast]; exact hev2) (by rw [hcast]) hai2 hpre2 wNx (by rw [hcast]; exact hopn) hok2 hst2
              rw [hcast] at hrec
              rcases hrec with ⟨ev', f1, arP2, arF2, arU2, arT2, shN2, shD2, arLU2, arGU2, arB2, arM2, arR2, arL2, arA2, arS2, leN2, leD2, grN2, grD2, arH2, stF2, stN2, stD2, f2, hc2⟩ | ⟨f1, arP2, arF2, arU2, arT2, shN2, shD2, arLU2, arGU2, arB2, arM2, arR2, arL2, arA2, arS2, leN2, leD2, grN2, grD2, arH2, stF2, stN2, stD2, f2, f3, hc2⟩
              · refine Or.inl ⟨ev', by rw [e15]; exact fstC_y f1, arP2, arF2, arU2, arT2, shN2, shD2, arLU2, arGU2, arB2, arM2, arR2, arL2, arA2, arS2, leN2, leD2, grN2, grD2, arH2, stF2, stN2, stD2, f2, ?_⟩
                refine Rg.step 55 F_PJ_completes_53 rfl (fun _ => rfl) ?_
                refine Rg.bip 57 F_PJ_completes_55 rfl rfl ?_
                refine Rg.step 58 F_PJ_completes_57 rfl (fun _ => rfl) ?_
                refine Rg.addI 59 F_PJ_completes_58 rfl ?_
                refine Rg.icgeI 195 62 F_PJ_completes_59 rfl rfl (by omega) (by omega) (fun h59 => by omega) (fun _ => ?_)
                refine Rg.step 64 F_PJ_completes_62 rfl (fun _ => rfl) ?_
                refine Rg.bip 66 F_PJ_completes_64 rfl rfl ?_
                refine Rg.icgeI 73 69 F_PJ_completes_66 rfl rfl (by omega) (by omega) (fun h66 => by omega) (fun _ => ?_)
                refine Rg.step 70 F_PJ_completes_69 rfl (fun _ => rfl) ?_
                refine Rg.step 74 F_PJ_completes_70 rfl (fun _ => rfl) ?_
                refine Rg.step 76 F_PJ_completes_74 rfl (fun _ => rfl) ?_
                refine Rg.step 78 F_PJ_completes_76 rfl (fun _ => rfl) ?_
                refine Rg.ifeqI 85 81 F_PJ_completes_78 rfl rfl (by omega) (fun h78 => by omega) (fun _ => ?_)
                refine Rg.step 82 F_PJ_completes_81 rfl (fun _ => rfl) ?_
                refine Rg.step 90 F_PJ_completes_82 rfl (fun _ => rfl) ?_
                refine Rg.step 92 F_PJ_completes_90 rfl (fun _ => rfl) ?_
                refine Rg.step 94 F_PJ_completes_92 rfl (fun _ => rfl) ?_
                refine Rg.ifeqI 112 97 F_PJ_completes_94 rfl rfl (by omega) (fun h94 => by omega) (fun _ => ?_)
                refine Rg.step 99 F_PJ_completes_97 rfl (fun _ => rfl) ?_
                refine Rg.step 100 F_PJ_completes_99 rfl (fun _ => rfl) ?_
                refine Rg.getf 103 F_PJ_completes_100 rfl rF_1_105 gC_6 rfl ?_
                refine Rg.call 106 F_PJ_completes_103 rfl (one_V rM_1_109 (by decide) (by simp) rfl rfl gC_7 rfl) (Nat.le_of_ble_eq_true rfl) (Cg.any c_list_size) ?_
                refine Rg.icgeI 189 109 F_PJ_completes_106 rfl rfl (by omega) (by omega) (fun h106 => by omega) (fun _ => ?_)
                refine Rg.step 121 F_PJ_completes_109 rfl (fun _ => rfl) ?_
                refine Rg.step 123 F_PJ_completes_121 rfl (fun _ => rfl) ?_
                refine Rg.ifeqI 133 126 F_PJ_completes_123 rfl rfl (by omega) (fun h123 => by omega) (fun _ => ?_)
                refine Rg.step 127 F_PJ_completes_126 rfl (fun _ => rfl) ?_
                refine Rg.step 129 F_PJ_completes_127 rfl (fun _ => rfl) ?_
                refine Rg.mulI 130 F_PJ_completes_129 rfl ?_
                refine Rg.step 139 F_PJ_completes_130 rfl (fun _ => rfl) ?_
                refine Rg.step 141 F_PJ_completes_139 rfl (fun _ => rfl) ?_
                refine Rg.step 143 F_PJ_completes_141 rfl (fun _ => rfl) ?_
                refine Rg.ifeqI 151 146 F_PJ_completes_143 rfl rfl (by omega) (fun h143 => by omega) (fun _ => ?_)
                refine Rg.step 148 F_PJ_completes_146 rfl (fun _ => rfl) ?_
                refine Rg.step 158 F_PJ_completes_148 rfl (fun _ => rfl) ?_
                refine Rg.step 160 F_PJ_completes_158 rfl (fun _ => rfl) ?_
                refine Rg.step 161 F_PJ_completes_160 rfl (fun _ => rfl) ?_
                refine Rg.step 162 F_PJ_completes_161 rfl (fun _ => rfl) ?_
                refine Rg.step 164 F_PJ_completes_162 rfl (fun _ => rfl) ?_
                refine Rg.step 166 F_PJ_completes_164 rfl (fun _ => rfl) ?_
                refine Rg.call 169 F_PJ_completes_166 rfl (one_V rM_1_282 (by decide) (by simp) rfl rfl gC_49 rfl) (Nat.le_of_ble_eq_true rfl) hc1 ?_
                refine Rg.ifneI 189 172 F_PJ_completes_169 rfl rfl (by omega) (fun h169 => by omega) (fun _ => ?_)
                refine Rg.step 173 F_PJ_completes_172 rfl (fun _ => rfl) ?_
                refine Rg.step 174 F_PJ_completes_173 rfl (fun _ => rfl) ?_
                refine Rg.step 175 F_PJ_completes_174 rfl (fun _ => rfl) ?_
                refine Rg.step 176 F_PJ_completes_175 rfl (fun _ => rfl) ?_
                refine Rg.subI 177 F_PJ_completes_176 rfl ?_
                rw [show (n : Int) + 1 - 1 = (n : Int) by omega]
                refine Rg.call 180 F_PJ_completes_177 rfl (one_S (by decide +kernel) rM_1_222 (by decide) (by simp) rfl rfl) (Nat.le_of_ble_eq_true rfl) hc2 ?_
                refine Rg.ifeqP 185 183 F_PJ_completes_180 rfl rfl (fun h180 => absurd trivial h180) (fun _ => ?_)
                refine Rg.step 184 F_PJ_completes_183 rfl (fun _ => rfl) ?_
                exact Rg.ret1 F_PJ_completes_184 rfl trivial rfl
              · have hnn : (fun c => findE (GoodE actions (fun S a t => fit needs needTime needOf needHow needN needD S.1 S.2.1 S.2.2 a t) (fun S a t => chAll changeTime changeOf changeHow changeN changeD t (changes a).toNat (6 * a) S) (fun S a => (lbN lastOf lastN lastD epsilonN epsilonD S.2.1 S.2.2 a, lbD lastOf lastN lastD epsilonN epsilonD S.2.1 S.2.2 a, gbN lastOf lastN lastD S.2.1 S.2.2 a, gbD lastOf lastN lastD S.2.1 S.2.2 a)) (fun S => goal wishes wants wantN wantD S.1 S.2.1 S.2.2) (fun a t b u => interf needs needTime needHow needOf lastOf changes changeTime changeHow changeOf a t b u) epsilonN epsilonD (fiF, fiN, fiD) many) n ((a : Int) + 1) (up1 ev (a : Int) c)) c = none := f1
                subst f2
                have hRa : arR2 (a : Int) = (2 * m) := by rw [f3.1 (a : Int) (by omega) (by omega), eT]
                have hbk := c_Ar_back (d := d + 6 + n) (actions := actions) (k := (a : Int)) (s0 := s0) (s1 := s1) (rest := rest) (handN := handN) (handD := handD) (gT := gT) (gF := gF) (alE := alE) (alM := alM) (fiF := fiF) (fiN := fiN) (fiD := fiD) (epN := epN) (epD := epD) (goH := goH) (goN := goN) (goD := goD) (plS := plS) (plP := plP) (plM := plM) (plA := plA) (plBN := plBN) (plBD := plBD) (plLN := plLN) (plLD := plLD) (plR := plR) (veW := veW) (veF := veF) (veP := veP) (vsF := vsF) (vsN := vsN) (vsD := vsD) (juM := juM) (juP := juP) (juTN := juTN) (juTD := juTD) (juO := juO) (scN := scN) (scD := scD) (noF := noF) (noN := noN) (noD := noD) (neF := neF) (neN := neN) (neD := neD) (arB := arB2) (arM := arM2) (arU := arU2) (arF := arF2) (arR := arR2) (arL := arL2) (arT := arT2) (arA := arA2) (arS := arS2) (leN := leN2) (leD := leD2) (grN := grN2) (grD := grD2) (arH := arH2) (arLU := arLU2) (arGU := arGU2) (shN := shN2) (shD := shD2) (stF := stF2) (stN := stN2) (stD := stD2) (by omega) (by rw [hRa]; omega)
                have hai3 := f3.back (σ := σ) (B := β a) (m := (m + 1)) (arB1 := if arR2 (a : Int) % 2 = 0 then arB2 - 1 else arB2) (by omega) hRk (by omega) (fun i z1 z2 => up1_ne _ _ (by omega)) (fun s z1 z2 => by
                  rw [up1_eq]
                  split
                  · rw [up1_ne _ _ (fun z => ?_)]
                    rw [z] at z2
                    exact hRk.2.1 (by rw [show 2 * ((up1 T (a : Int) (2 * m)) a / 2) = (up1 T (a : Int) (2 * m)) a by omega] at z2; exact z2)
                  · rfl) (fun s z1 z2 => by
                  obtain ⟨b1, b2, -⟩ := f3.2.2.2.2.1 s z1 ((grp_1 (by omega)).mpr (Or.inl z2))
                  refine Classical.byContradiction (fun z => hRk.2.1 ?_)
                  have ez : arS2 s = (a : Int) := by omega
                  rw [ez] at b2
                  rw [b2.2.2]
                  exact z2) (by rw [f3.1 (a : Int) (by omega) (by omega)])
                have v9 := hai3.ext (A1 := A) (r1 := T) (I1 := (intP A needs needTime needHow needOf lastOf changes changeTime changeHow changeOf)) (fun i z1 z2 => (hT0 _ i z1 z2).symm) (fun s z1 z2 => (hAe s z1 ((hgT _ _).mp z2)).symm) (fun i j z1 z2 z3 z4 => by
                  unfold intP
                  rw [hT0 _ i z1 z2, hT0 _ j z3 z4, hAb i z1 z2, hAb j z3 z4])
                rw [f3.1 (a : Int) (by omega) (by omega)] at hbk
                replace hbk := Cg.deep hbk (show d + 6 + n + 1 ≤ d + 8 + n by omega)
                rw [← f3.1 (a : Int) (by omega) (by omega), f3.1 (a : Int) (by omega) (by omega)] at v9
                have hBa : (if (up1 T (a : Int) (2 * m)) a % 2 = 0 then arB2 - 1 else arB2) = m := by
                  have := v9.2.2.1
                  rw [this, ← hai.2.2.1]
                  exact hB
                rcases ihq (c + 1) (a : Int) arF2 arU2 arT2 shN2 shD2 arLU2 arGU2 (if (up1 T (a : Int) (2 * m)) a % 2 = 0 then arB2 - 1 else arB2) (fun i => arM2 i ↔ ¬ i = (up1 T (a : Int) (2 * m)) a / 2) arR2 arL2 arA2 arS2 leN2 leD2 grN2 grD2 arH2 stF2 stN2 stD2 (by omega) (by omega) (fun z => hmb (by omega)) rfl hBa v9 with ⟨ev', f1, arP1, arF1, arU1, arT1, shN1, shD1, arLU1, arGU1, arB1, arM1, arR1, arL1, arA1, arS1, leN1, leD1, grN1, grD1, arH1, stF1, stN1, stD1, f2, ht⟩ | ⟨f1, arP1, arF1, arU1, arT1, shN1, shD1, arLU1, arGU1, arB1, arM1, arR1, arL1, arA1, arS1, leN1, leD1, grN1, grD1, arH1, stF1, stN1, stD1, f2, f3, ht⟩
                · refine Or.inl ⟨ev', (skip hnn).trans f1, arP1, arF1, arU1, arT1, shN1, shD1, arLU1, arGU1, arB1, arM1, arR1, arL1, arA1, arS1, leN1, leD1, grN1, grD1, arH1, stF1, stN1, stD1, f2, ?_⟩
                  refine Rg.step 55 F_PJ_completes_53 rfl (fun _ => rfl) ?_
                  refine Rg.bip 57 F_PJ_completes_55 rfl rfl ?_
                  refine Rg.step 58 F_PJ_completes_57 rfl (fun _ => rfl) ?_
                  refine Rg.addI 59 F_PJ_completes_58 rfl ?_
                  refine Rg.icgeI 195 62 F_PJ_completes_59 rfl rfl (by omega) (by omega) (fun h59 => by omega) (fun _ => ?_)
                  refine Rg.step 64 F_PJ_completes_62 rfl (fun _ => rfl) ?_
                  refine Rg.bip 66 F_PJ_completes_64 rfl rfl ?_
                  refine Rg.icgeI 73 69 F_PJ_completes_66 rfl rfl (by omega) (by omega) (fun h66 => by omega) (fun _ => ?_)
                  refine Rg.step 70 F_PJ_completes_69 rfl (fun _ => rfl) ?_
                  refine Rg.step 74 F_PJ_completes_70 rfl (fun _ => rfl) ?_
                  refine Rg.step 76 F_PJ_completes_74 rfl (fun _ => rfl) ?_
                  refine Rg.step 78 F_PJ_completes_76 rfl (fun _ => rfl) ?_
                  refine Rg.ifeqI 85 81 F_PJ_completes_78 rfl rfl (by omega) (fun h78 => by omega) (fun _ => ?_)
                  refine Rg.step 82 F_PJ_completes_81 rfl (fun _ => rfl) ?_
                  refine Rg.step 90 F_PJ_completes_82 rfl (fun _ => rfl) ?_
                  refine Rg.step 92 F_PJ_completes_90 rfl (fun _ => rfl) ?_
                  refine Rg.step 94 F_PJ_completes_92 rfl (fun _ => rfl) ?_
                  refine Rg.ifeqI 112 97 F_PJ_completes_94 rfl rfl (by omega) (fun h94 => by omega) (fun _ => ?_)
                  refine Rg.step 99 F_PJ_completes_97 rfl (fun _ => rfl) ?_
                  refine Rg.step 100 F_PJ_completes_99 rfl (fun _ => rfl) ?_
                  refine Rg.getf 103 F_PJ_completes_100 rfl rF_1_105 gC_6 rfl ?_
                  refine Rg.call 106 F_PJ_completes_103 rfl (one_V rM_1_109 (by decide) (by simp) rfl rfl gC_7 rfl) (Nat.le_of_ble_eq_true rfl) (Cg.any c_list_size) ?_
                  refine Rg.icgeI 189 109 F_PJ_completes_106 rfl rfl (by omega) (by omega) (fun h106 => by omega) (fun _ => ?_)
                  refine Rg.step 121 F_PJ_completes_109 rfl (fun _ => rfl) ?_
                  refine Rg.step 123 F_PJ_completes_121 rfl (fun _ => rfl) ?_
                  refine Rg.ifeqI 133 126 F_PJ_completes_123 rfl rfl (by omega) (fun h123 => by omega) (fun _ => ?_)
                  refine Rg.step 127 F_PJ_completes_126 rfl (fun _ => rfl) ?_
                  refine Rg.step 129 F_PJ_completes_127 rfl (fun _ => rfl) ?_
                  refine Rg.mulI 130 F_PJ_completes_129 rfl ?_
                  refine Rg.step 139 F_PJ_completes_130 rfl (fun _ => rfl) ?_
                  refine Rg.step 141 F_PJ_completes_139 rfl (fun _ => rfl) ?_
                  refine Rg.step 143 F_PJ_completes_141 rfl (fun _ => rfl) ?_
                  refine Rg.ifeqI 151 146 F_PJ_completes_143 rfl rfl (by omega) (fun h143 => by omega) (fun _ => ?_)
                  refine Rg.step 148 F_PJ_completes_146 rfl (fun _ => rfl) ?_
                  refine Rg.step 158 F_PJ_completes_148 rfl (fun _ => rfl) ?_
                  refine Rg.step 160 F_PJ_completes_158 rfl (fun _ => rfl) ?_
                  refine Rg.step 161 F_PJ_completes_160 rfl (fun _ => rfl) ?_
                  refine Rg.step 162 F_PJ_completes_161 rfl (fun _ => rfl) ?_
                  refine Rg.step 164 F_PJ_completes_162 rfl (fun _ => rfl) ?_
                  refine Rg.step 166 F_PJ_completes_164 rfl (fun _ => rfl) ?_
                  refine Rg.call 169 F_PJ_completes_166 rfl (one_V rM_1_282 (by decide) (by simp) rfl rfl gC_49 rfl) (Nat.le_of_ble_eq_true rfl) hc1 ?_
                  refine Rg.ifneI 189 172 F_PJ_completes_169 rfl rfl (by omega) (fun h169 => by omega) (fun _ => ?_)
                  refine Rg.step 173 F_PJ_completes_172 rfl (fun _ => rfl) ?_
                  refine Rg.step 174 F_PJ_completes_173 rfl (fun _ => rfl) ?_
                  refine Rg.step 175 F_PJ_completes_174 rfl (fun _ => rfl) ?_
                  refine Rg.step 176 F_PJ_completes_175 rfl (fun _ => rfl) ?_
                  refine Rg.subI 177 F_PJ_completes_176 rfl ?_
                  rw [show (n : Int) + 1 - 1 = (n : Int) by omega]
                  refine Rg.call 180 F_PJ_completes_177 rfl (one_S (by decide +kernel) rM_1_222 (by decide) (by simp) rfl rfl) (Nat.le_of_ble_eq_true rfl) hc2 ?_
                  refine Rg.ifeqP 185 183 F_PJ_completes_180 rfl rfl (fun _ => ?_) (fun h180 => absurd h180 (fun z => z))
                  refine Rg.step 186 F_PJ_completes_185 rfl (fun _ => rfl) ?_
                  refine Rg.call 189 F_PJ_completes_186 rfl (one_V rM_1_286 (by decide) (by simp) rfl rfl gC_49 rfl) (Nat.le_of_ble_eq_true rfl) hbk ?_
                  refine Rg.inc 192 F_PJ_completes_189 rfl rfl (by decide) ?_
                  refine Rg.step 53 F_PJ_completes_192 rfl (fun _ => rfl) ?_
                  exact Rg.weak ht (by simp [lput1, lput2, Value.category, fi0, fi1, fi2, fi3] <;> first | rfl | exact ⟨rfl, rfl⟩) (by simp [lput1, lput2, Value.category, fi0, fi1, fi2, fi3] <;> first | rfl | exact ⟨rfl, rfl⟩)
                · refine Or.inr ⟨(skip hnn).trans f1, arP1, arF1, arU1, arT1, shN1, shD1, arLU1, arGU1, arB1, arM1, arR1, arL1, arA1, arS1, leN1, leD1, grN1, grD1, arH1, stF1, stN1, stD1, f2, f3, ?_⟩
                  refine Rg.step 55 F_PJ_completes_53 rfl (fun _ => rfl) ?_
                  refine Rg.bip 57 F_PJ_completes_55 rfl rfl ?_
                  refine Rg.step 58 F_PJ_completes_57 rfl (fun _ => rfl) ?_
                  refine Rg.addI 59 F_PJ_completes_58 rfl ?_
                  refine Rg.icgeI 195 62 F_PJ_completes_59 rfl rfl (by omega) (by omega) (fun h59 => by omega) (fun _ => ?_)
                  refine Rg.step 64 F_PJ_completes_62 rfl (fun _ => rfl) ?_
                  refine Rg.bip 66 F_PJ_completes_64 rfl rfl ?_
                  refine Rg.icgeI 73 69 F_PJ_completes_66 rfl rfl (by omega) (by omega) (fun h66 => by omega) (fun _ => ?_)
                  refine Rg.step 70 F_PJ_completes_69 rfl (fun _ => rfl) ?_
                  refine Rg.step 74 F_PJ_completes_70 rfl (fun _ => rfl) ?_
                  refine Rg.step 76 F_PJ_completes_74 rfl (fun _ => rfl) ?_
                  refine Rg.step 78 F_PJ_completes_76 rfl (fun _ => rfl) ?_
                  refine Rg.ifeqI 85 81 F_PJ_completes_78 rfl rfl (by omega) (fun h78 => by omega) (fun _ => ?_)
                  refine Rg.step 82 F_PJ_completes_81 rfl (fun _ => rfl) ?_
                  refine Rg.step 90 F_PJ_completes_82 rfl (fun _ => rfl) ?_
                  refine Rg.step 92 F_PJ_completes_90 rfl (fun _ => rfl) ?_
                  refine Rg.step 94 F_PJ_completes_92 rfl (fun _ => rfl) ?_
                  refine Rg.ifeqI 112 97 F_PJ_completes_94 rfl rfl (by omega) (fun h94 => by omega) (fun _ => ?_)
                  refine Rg.step 99 F_PJ_completes_97 rfl (fun _ => rfl) ?_
                  refine Rg.step 100 F_PJ_completes_99 rfl (fun _ => rfl) ?_
                  refine Rg.getf 103 F_PJ_completes_100 rfl rF_1_105 gC_6 rfl ?_
                  refine Rg.call 106 F_PJ_completes_103 rfl (one_V rM_1_109 (by decide) (by simp) rfl rfl gC_7 rfl) (Nat.le_of_ble_eq_true rfl) (Cg.any c_list_size) ?_
                  refine Rg.icgeI 189 109 F_PJ_completes_106 rfl rfl (by omega) (by omega) (fun h106 => by omega) (fun _ => ?_)
                  refine Rg.step 121 F_PJ_completes_109 rfl (fun _ => rfl) ?_
                  refine Rg.step 123 F_PJ_completes_121 rfl (fun _ => rfl) ?_
                  refine Rg.ifeqI 133 126 F_PJ_completes_123 rfl rfl (by omega) (fun h123 => by omega) (fun _ => ?_)
                  refine Rg.step 127 F_PJ_completes_126 rfl (fun _ => rfl) ?_
                  refine Rg.step 129 F_PJ_completes_127 rfl (fun _ => rfl) ?_
                  refine Rg.mulI 130 F_PJ_completes_129 rfl ?_
                  refine Rg.step 139 F_PJ_completes_130 rfl (fun _ => rfl) ?_
                  refine Rg.step 141 F_PJ_completes_139 rfl (fun _ => rfl) ?_
                  refine Rg.step 143 F_PJ_completes_141 rfl (fun _ => rfl) ?_
                  refine Rg.ifeqI 151 146 F_PJ_completes_143 rfl rfl (by omega) (fun h143 => by omega) (fun _ => ?_)
                  refine Rg.step 148 F_PJ_completes_146 rfl (fun _ => rfl) ?_
                  refine Rg.step 158 F_PJ_completes_148 rfl (fun _ => rfl) ?_
                  refine Rg.step 160 F_PJ_completes_158 rfl (fun _ => rfl) ?_
                  refine Rg.step 161 F_PJ_completes_160 rfl (fun _ => rfl) ?_
                  refine Rg.step 162 F_PJ_completes_161 rfl (fun _ => rfl) ?_
                  refine Rg.step 164 F_PJ_completes_162 rfl (fun _ => rfl) ?_
                  refine Rg.step 166 F_PJ_completes_164 rfl (fun _ => rfl) ?_
                  refine Rg.call 169 F_PJ_completes_166 rfl (one_V rM_1_282 (by decide) (by simp) rfl rfl gC_49 rfl) (Nat.le_of_ble_eq_true rfl) hc1 ?_
                  refine Rg.ifneI 189 172 F_PJ_completes_169 rfl rfl (by omega) (fun h169 => by omega) (fun _ => ?_)
                  refine Rg.step 173 F_PJ_completes_172 rfl (fun _ => rfl) ?_
                  refine Rg.step 174 F_PJ_completes_173 rfl (fun _ => rfl) ?_
                  refine Rg.step 175 F_PJ_completes_174 rfl (fun _ => rfl) ?_
                  refine Rg.step 176 F_PJ_completes_175 rfl (fun _ => rfl) ?_
                  refine Rg.subI 177 F_PJ_completes_176 rfl ?_
                  rw [show (n : Int) + 1 - 1 = (n : Int) by omega]
                  refine Rg.call 180 F_PJ_completes_177 rfl (one_S (by decide +kernel) rM_1_222 (by decide) (by simp) rfl rfl) (Nat.le_of_ble_eq_true rfl) hc2 ?_
                  refine Rg.ifeqP 185 183 F_PJ_completes_180 rfl rfl (fun _ => ?_) (fun h180 => absurd h180 (fun z => z))
                  refine Rg.step 186 F_PJ_completes_185 rfl (fun _ => rfl) ?_
                  refine Rg.call 189 F_PJ_completes_186 rfl (one_V rM_1_286 (by decide) (by simp) rfl rfl gC_49 rfl) (Nat.le_of_ble_eq_true rfl) hbk ?_
                  refine Rg.inc 192 F_PJ_completes_189 rfl rfl (by decide) ?_
                  refine Rg.step 53 F_PJ_completes_192 rfl (fun _ => rfl) ?_
                  exact Rg.weak ht (by simp [lput1, lput2, Value.category, fi0, fi1, fi2, fi3] <;> first | rfl | exact ⟨rfl, rfl⟩) (by simp [lput1, lput2, Value.category, fi0, fi1, fi2, fi3] <;> first | rfl | exact ⟨rfl, rfl⟩)
          · have hnn : (fun c => findE (GoodE actions (fun S a t => fit needs needTime needOf needHow needN needD S.1 S.2.1 S.2.2 a t) (fun S a t => chAll changeTime changeOf changeHow changeN changeD t (changes a).toNat (6 * a) S) (fun S a => (lbN lastOf lastN lastD epsilonN epsilonD S.2.1 S.2.2 a, lbD lastOf lastN lastD epsilonN epsilonD S.2.1 S.2.2 a, gbN lastOf lastN lastD S.2.1 S.2.2 a, gbD lastOf lastN lastD S.2.1 S.2.2 a)) (fun S => goal wishes wants wantN wantD S.1 S.2.1 S.2.2) (fun a t b u => interf needs needTime needHow needOf lastOf changes changeTime changeHow changeOf a t b u) epsilonN epsilonD (fiF, fiN, fiD) many) n ((a : Int) + 1) (up1 ev (a : Int) c)) c = none := hinv c (by
            rw [evS_s, up1_eq, if_pos (by omega), if_neg hact])
            rcases ihq (c + 1) (a : Int) arF0 arU0 arT0 shN0 shD0 arLU0 arGU0 arB0 arM0 arR0 arL0 arA0 arS0 leN0 leD0 grN0 grD0 arH0 stF0 stN0 stD0 (by omega) (by omega) (fun z => hmb (by omega)) rfl hB hai with ⟨ev', f1, arP1, arF1, arU1, arT1, shN1, shD1, arLU1, arGU1, arB1, arM1, arR1, arL1, arA1, arS1, leN1, leD1, grN1, grD1, arH1, stF1, stN1, stD1, f2, ht⟩ | ⟨f1, arP1, arF1, arU1, arT1, shN1, shD1, arLU1, arGU1, arB1, arM1, arR1, arL1, arA1, arS1, leN1, leD1, grN1, grD1, arH1, stF1, stN1, stD1, f2, f3, ht⟩
            · refine Or.inl ⟨ev', (skip hnn).trans f1, arP1, arF1, arU1, arT1, shN1, shD1, arLU1, arGU1, arB1, arM1, arR1, arL1, arA1, arS1, leN1, leD1, grN1, grD1, arH1, stF1, stN1, stD1, f2, ?_⟩
              refine Rg.step 55 F_PJ_completes_53 rfl (fun _ => rfl) ?_
              refine Rg.bip 57 F_PJ_completes_55 rfl rfl ?_
              refine Rg.step 58 F_PJ_completes_57 rfl (fun _ => rfl) ?_
              refine Rg.addI 59 F_PJ_completes_58 rfl ?_
              refine Rg.icgeI 195 62 F_PJ_completes_59 rfl rfl (by omega) (by omega) (fun h59 => by omega) (fun _ => ?_)
              refine Rg.step 64 F_PJ_completes_62 rfl (fun _ => rfl) ?_
              refine Rg.bip 66 F_PJ_completes_64 rfl rfl ?_
              refine Rg.icgeI 73 69 F_PJ_completes_66 rfl rfl (by omega) (by omega) (fun h66 => by omega) (fun _ => ?_)
              refine Rg.step 70 F_PJ_completes_69 rfl (fun _ => rfl) ?_
              refine Rg.step 74 F_PJ_completes_70 rfl (fun _ => rfl) ?_
              refine Rg.step 76 F_PJ_completes_74 rfl (fun _ => rfl) ?_
              refine Rg.step 78 F_PJ_completes_76 rfl (fun _ => rfl) ?_
              refine Rg.ifeqI 85 81 F_PJ_completes_78 rfl rfl (by omega) (fun h78 => by omega) (fun _ => ?_)
              refine Rg.step 82 F_PJ_completes_81 rfl (fun _ => rfl) ?_
              refine Rg.step 90 F_PJ_completes_82 rfl (fun _ => rfl) ?_
              refine Rg.step 92 F_PJ_completes_90 rfl (fun _ => rfl) ?_
              refine Rg.step 94 F_PJ_completes_92 rfl (fun _ => rfl) ?_
              refine Rg.ifeqI 112 97 F_PJ_completes_94 rfl rfl (by omega) (fun h94 => by omega) (fun _ => ?_)
              refine Rg.step 99 F_PJ_completes_97 rfl (fun _ => rfl) ?_
              refine Rg.step 100 F_PJ_completes_99 rfl (fun _ => rfl) ?_
              refine Rg.getf 103 F_PJ_completes_100 rfl rF_1_105 gC_6 rfl ?_
              refine Rg.call 106 F_PJ_completes_103 rfl (one_V rM_1_109 (by decide) (by simp) rfl rfl gC_7 rfl) (Nat.le_of_ble_eq_true rfl) (Cg.any c_list_size) ?_
              refine Rg.icgeI 189 109 F_PJ_completes_106 rfl rfl (by omega) (by omega) (fun _ => ?_) (fun h106 => by omega)
              refine Rg.inc 192 F_PJ_completes_189 rfl rfl (by decide) ?_
              refine Rg.step 53 F_PJ_completes_192 rfl (fun _ => rfl) ?_
              exact Rg.weak ht (by simp [lput1, lput2, Value.category, fi0, fi1, fi2, fi3] <;> first | rfl | exact ⟨rfl, rfl⟩) (by simp [lput1, lput2, Value.category, fi0, fi1, fi2, fi3] <;> first | rfl | exact ⟨rfl, rfl⟩)
            · refine Or.inr ⟨(skip hnn).trans f1, arP1, arF1, arU1, arT1, shN1, shD1, arLU1, arGU1, arB1, arM1, arR1, arL1, arA1, arS1, leN1, leD1, grN1, grD1, arH1, stF1, stN1, stD1, f2, f3, ?_⟩
              refine Rg.step 55 F_PJ_completes_53 rfl (fun _ => rfl) ?_
              refine Rg.bip 57 F_PJ_completes_55 rfl rfl ?_
              refine Rg.step 58 F_PJ_completes_57 rfl (fun _ => rfl) ?_
              refine Rg.addI 59 F_PJ_completes_58 rfl ?_
              refine Rg.icgeI 195 62 F_PJ_completes_59 rfl rfl (by omega) (by omega) (fun h59 => by omega) (fun _ => ?_)
              refine Rg.step 64 F_PJ_completes_62 rfl (fun _ => rfl) ?_
              refine Rg.bip 66 F_PJ_completes_64 rfl rfl ?_
              refine Rg.icgeI 73 69 F_PJ_completes_66 rfl rfl (by omega) (by omega) (fun h66 => by omega) (fun _ => ?_)
              refine Rg.step 70 F_PJ_completes_69 rfl (fun _ => rfl) ?_
              refine Rg.step 74 F_PJ_completes_70 rfl (fun _ => rfl) ?_
              refine Rg.step 76 F_PJ_completes_74 rfl (fun _ => rfl) ?_
              refine Rg.step 78 F_PJ_completes_76 rfl (fun _ => rfl) ?_
              refine Rg.ifeqI 85 81 F_PJ_completes_78 rfl rfl (by omega) (fun h78 => by omega) (fun _ => ?_)
              refine Rg.step 82 F_PJ_completes_81 rfl (fun _ => rfl) ?_
              refine Rg.step 90 F_PJ_completes_82 rfl (fun _ => rfl) ?_
              refine Rg.step 92 F_PJ_completes_90 rfl (fun _ => rfl) ?_
              refine Rg.step 94 F_PJ_completes_92 rfl (fun _ => rfl) ?_
              refine Rg.ifeqI 112 97 F_PJ_completes_94 rfl rfl (by omega) (fun h94 => by omega) (fun _ => ?_)
              refine Rg.step 99 F_PJ_completes_97 rfl (fun _ => rfl) ?_
              refine Rg.step 100 F_PJ_completes_99 rfl (fun _ => rfl) ?_
              refine Rg.getf 103 F_PJ_completes_100 rfl rF_1_105 gC_6 rfl ?_
              refine Rg.call 106 F_PJ_completes_103 rfl (one_V rM_1_109 (by decide) (by simp) rfl rfl gC_7 rfl) (Nat.le_of_ble_eq_true rfl) (Cg.any c_list_size) ?_
              refine Rg.icgeI 189 109 F_PJ_completes_106 rfl rfl (by omega) (by omega) (fun _ => ?_) (fun h106 => by omega)
              refine Rg.inc 192 F_PJ_completes_189 rfl rfl (by decide) ?_
              refine Rg.step 53 F_PJ_completes_192 rfl (fun _ => rfl) ?_
              exact Rg.weak ht (by simp [lput1, lput2, Value.category, fi0, fi1, fi2, fi3] <;> first | rfl | exact ⟨rfl, rfl⟩) (by simp [lput1, lput2, Value.category, fi0, fi1, fi2, fi3] <;> first | rfl | exact ⟨rfl, rfl⟩)
        · skip
          have hsm : c - 12 < m := by omega
          by_cases hact : arM0 (c - 12)
          · skip
            have hopen := (hai.2.2.2.1 (c - 12) (by omega) (by omega)).mp hact
            have hnew : ∀ i, 0 ≤ i → i < (a : Int) → ¬ T i = 2 * (c - 12) + 1 := fun i z1 z2 z3 => hopen.2 ⟨i, z1, z2, z3⟩
            have hE1 := (hev1 (c - 12 + 12)).trans (hend (c - 12) (by omega) hsm hnew)
            rw [show c - 12 + 12 = c by omega] at hE1
            have hAe : ∀ s, 0 ≤ s → grp T 0 (a : Int) (2 * s) → A s = A s := fun s _ _ => rfl
            have hAb : ∀ i, 0 ≤ i → i < (a : Int) → A (T i / 2) = A (T i / 2) := fun i _ _ => rfl
            have hAact : ∀ s, 0 ≤ s → s < m → 0 ≤ A s ∧ A s < actions := w3
            have eA : A (up1 T (a : Int) (2 * (c - 12) + 1) a / 2) = A (c - 12) := by rw [up1_eq, show (2 * (c - 12) + 1) / 2 = c - 12 by omega]
            have eAr : arA0 (c - 12) = A (c - 12) := (hai.2.2.2.2.1 (c - 12) (by omega) hopen.1).1
            have hopn : 0 ≤ 2 * m - ((a : Int) + 1) ∧ 2 * m - ((a : Int) + 1) ≤ (n : Int) := by
              refine ⟨?_, by omega⟩
              refine Classical.byContradiction (fun z => ?_)
              have hfull := inj_full (n := a) (T := T) (fun i y1 y2 => by have := w4 i y1 y2; omega) w5 (2 * (c - 12) + 1) (by omega) (by omega)
              obtain ⟨j, y1, y2, y3⟩ := hfull
              exact hnew j y1 y2 y3
            have eT : (up1 T (a : Int) (2 * (c - 12) + 1)) a = (2 * (c - 12) + 1) := up1_eq _ _ _
            have hRk : RowOK (up1 T (a : Int) (2 * (c - 12) + 1)) m (a : Int) := by
              unfold RowOK
              rw [eT]
              refine ⟨by omega, fun z => ?_, fun z => ?_, fun s z => ?_⟩
              · obtain ⟨i, y1, y2, y3⟩ := (hgT _ _).mp z
                exact hnew i y1 y2 y3
              · rw [hgT, show 2 * (c - 12) + 1 - 1 = 2 * (c - 12) by omega]; exact hopen.1
              · rw [hgT] at z ⊢
                obtain ⟨i, y1, y2, y3⟩ := id z
                have := w4 i y1 y2
                exact hst s (by omega) (by omega)
            have hai1 : ArI A (up1 T (a : Int) (2 * (c - 12) + 1)) (intP A needs needTime needHow needOf lastOf changes changeTime changeHow changeOf) (a : Int) σ (β a) arB0 arM0 arR0 arL0 arA0 arS0 leN0 leD0 grN0 grD0 arH0 stF0 stN0 stD0 := hai.ext (hT0 _) hAe (fun i j z1 z2 z3 z4 => by
              unfold intP
              rw [hAb i z1 z2, hAb j z3 z4])
            have hpre1 : PreOK (fun S a t => fit needs needTime needOf needHow needN needD S.1 S.2.1 S.2.2 a t) (fun S a t => chAll changeTime changeOf changeHow changeN changeD t (changes a).toNat (6 * a) S) (fun S a => (lbN lastOf lastN lastD epsilonN epsilonD S.2.1 S.2.2 a, lbD lastOf lastN lastD epsilonN epsilonD S.2.1 S.2.2 a, gbN lastOf lastN lastD S.2.1 S.2.2 a, gbD lastOf lastN lastD S.2.1 S.2.2 a)) (fiF, fiN, fiD) A (up1 T (a : Int) (2 * (c - 12) + 1)) (a : Int) σ β := hpre.ext (hT0 _) hAb (fun s ⟨i, y1, y2, y3⟩ => hAe s (by have := w4 i y1 y2; omega) ⟨i, y1, y2, y3⟩)
            obtain ⟨why, arPa, arFa, arBa, arMa, arRa, arLa, arAa, arSa, leNa, leDa, grNa, grDa, arHa, stFa, stNa, stDa, hADD, hc1⟩ := c_Ar_add (d := d + 3 + n) (A := A) (r := (up1 T (a : Int) (2 * (c - 12) + 1))) (σ := σ) (B := β a) (m := m) (k := (a : Int)) (s0 := s0) (s1 := s1) (rest := rest) (handN := handN) (handD := handD) (gT := gT) (gF := gF) (alE := alE) (alM := alM) (fiF := fiF) (fiN := fiN) (fiD := fiD) (epN := epN) (epD := epD) (goH := goH) (goN := goN) (goD := goD) (plS := plS) (plP := plP) (plM := plM) (plA := plA) (plBN := plBN) (plBD := plBD) (plLN := plLN) (plLD := plLD) (plR := plR) (veW := veW) (veF := veF) (veP := veP) (vsF := vsF) (vsN := vsN) (vsD := vsD) (juM := juM) (juP := juP) (juTN := juTN) (juTD := juTD) (juO := juO) (scN := scN) (scD := scD) (noF := noF) (noN := noN) (noD := noD) (neF := neF) (neN := neN) (neD := neD) (arB := arB0) (arM := arM0) (arU := arU0) (arF := arF0) (arR := arR0) (arL := arL0) (arT := arT0) (arA := arA0) (arS := arS0) (leN := leN0) (leD := leD0) (grN := grN0) (grD := grD0) (arH := arH0) (arLU := arLU0) (arGU := arGU0) (shN := shN0) (shD := shD0) (stF := stF0) (stN := stN0) (stD := stD0) hw hO hE he (by omega) (by omega) hRk (fun i z1 z2 => by rw [hT0 _ i z1 z2]; have := w4 i z1 z2; omega) hAact wN' hai1
            rw [eA, eT] at hc1
            replace hc1 := Cg.deep hc1 (show d + 3 + n + 5 ≤ d + 8 + n by omega)
            have hev2 : ∀ i, 0 ≤ i → i < (a : Int) + 1 → 0 ≤ up1 ev (a : Int) c i ∧ up1 ev (a : Int) c i < 15 := fun i z1 z2 => by
              by_cases h : i = (a : Int)
              · rw [h, up1_eq]; omega
              · rw [up1_ne _ _ h]; exact hin i z1 (by omega)
            have hpt : ∀ i, 0 ≤ i → i < (a : Int) + 1 → (up1 T (a : Int) (2 * (c - 12) + 1)) i / 2 < m := fun i z1 z2 => by
              by_cases h : i = (a : Int)
              · rw [h, eT]; omega
              · rw [hT0 _ i z1 (by omega)]; have := hT2 i z1 (by omega); omega
            have hbadno : (¬ (fun S a t => fit needs needTime needOf needHow needN needD S.1 S.2.1 S.2.2 a t) (σ a) (A ((up1 T (a : Int) (2 * (c - 12) + 1)) a / 2)) (tmo ((up1 T (a : Int) (2 * (c - 12) + 1)) a)) ∨ ((fun S a t => fit needs needTime needOf needHow needN needD S.1 S.2.1 S.2.2 a t) (σ a) (A ((up1 T (a : Int) (2 * (c - 12) + 1)) a / 2)) (tmo ((up1 T (a : Int) (2 * (c - 12) + 1)) a)) ∧ ((fun S a t => chAll changeTime changeOf changeHow changeN changeD t (changes a).toNat (6 * a) S) (σ a) (A ((up1 T (a : Int) (2 * (c - 12) + 1)) a / 2)) (tmo ((up1 T (a : Int) (2 * (c - 12) + 1)) a)) = none ∨ ∃ S2, (fun S a t => chAll changeTime changeOf changeHow changeN changeD t (changes a).toNat (6 * a) S) (σ a) (A ((up1 T (a : Int) (2 * (c - 12) + 1)) a / 2)) (tmo ((up1 T (a : Int) (2 * (c - 12) + 1)) a)) = some S2 ∧ ∃ q, 0 ≤ q ∧ q < m ∧ (grp (up1 T (a : Int) (2 * (c - 12) + 1)) 0 ((a : Int) + 1) (2 * q) ∧ ¬ grp (up1 T (a : Int) (2 * (c - 12) + 1)) 0 ((a : Int) + 1) (2 * q + 1) ∧ ¬ (fun S a t => fit needs needTime needOf needHow needN needD S.1 S.2.1 S.2.2 a t) S2 (A q) 1) ∧ ∀ j, 0 ≤ j → j < q → ¬ (grp (up1 T (a : Int) (2 * (c - 12) + 1)) 0 ((a : Int) + 1) (2 * j) ∧ ¬ grp (up1 T (a : Int) (2 * (c - 12) + 1)) 0 ((a : Int) + 1) (2 * j + 1) ∧ ¬ (fun S a t => fit needs needTime needOf needHow needN needD S.1 S.2.1 S.2.2 a t) S2 (A j) 1)))) → (fun c => findE (GoodE actions (fun S a t => fit needs needTime needOf needHow needN needD S.1 S.2.1 S.2.2 a t) (fun S a t => chAll changeTime changeOf changeHow changeN changeD t (changes a).toNat (6 * a) S) (fun S a => (lbN lastOf lastN lastD epsilonN epsilonD S.2.1 S.2.2 a, lbD lastOf lastN lastD epsilonN epsilonD S.2.1 S.2.2 a, gbN lastOf lastN lastD S.2.1 S.2.2 a, gbD lastOf lastN lastD S.2.1 S.2.2 a)) (fun S => goal wishes wants wantN wantD S.1 S.2.1 S.2.2) (fun a t b u => interf needs needTime needHow needOf lastOf changes changeTime changeHow changeOf a t b u) epsilonN epsilonD (fiF, fiN, fiD) many) n ((a : Int) + 1) (up1 ev (a : Int) c)) c = none := fun hfault => findE_none n _ _ (fun ev1 z1 z2 => by
              rw [show many = a + 1 + n by omega]
              exact good_fault (n := n) (ev := up1 ev (a : Int) c) hE1 (fun i y1 y2 => (hev2 i y1 y2).1) (fun i y1 y2 => z1 i (by omega)) hpre1 hpt hfault)
            have hB0 : arB0 = arB0 := rfl
            rcases hADD with ⟨v1, v2, v3, v4, v5⟩ | ⟨hf, ⟨v1, v2, v3, v4, v5⟩ | ⟨F2, N2, D2, hcc, wN2, ⟨v1, q9, v2, q1, q2, v3, v3b, v4, v5, v7, v8, v9⟩ | ⟨v1, v2, v3, v4⟩⟩⟩
            · skip
              have hnn : (fun c => findE (GoodE actions (fun S a t => fit needs needTime needOf needHow needN needD S.1 S.2.1 S.2.2 a t) (fun S a t => chAll changeTime changeOf changeHow changeN changeD t (changes a).toNat (6 * a) S) (fun S a => (lbN lastOf lastN lastD epsilonN epsilonD S.2.1 S.2.2 a, lbD lastOf lastN lastD epsilonN epsilonD S.2.1 S.2.2 a, gbN lastOf lastN lastD S.2.1 S.2.2 a, gbD lastOf lastN lastD S.2.1 S.2.2 a)) (fun S => goal wishes wants wantN wantD S.1 S.2.1 S.2.2) (fun a t b u => interf needs needTime needHow needOf lastOf changes changeTime changeHow changeOf a t b u) epsilonN epsilonD (fiF, fiN, fiD) many) n ((a : Int) + 1) (up1 ev (a : Int) c)) c = none := hbadno (Or.inl (by rw [hS]; exact v2))
              subst v1
              subst v4
              have v9 : ArI A T (intP A needs needTime needHow needOf lastOf changes changeTime changeHow changeOf) (a : Int) σ (β a) arBa arMa arRa arLa arAa arSa leNa leDa grNa grDa arHa stFa stNa stDa := v5.ext (fun i z1 z2 => (hT0 _ i z1 z2).symm) (fun s z1 z2 => (hAe s z1 ((hgT _ _).mp z2)).symm) (fun i j z1 z2 z3 z4 => by
                unfold intP
                rw [hT0 _ i z1 z2, hT0 _ j z3 z4, hAb i z1 z2, hAb j z3 z4])
              have hBa : arBa = m := by rw [v9.2.2.1, ← hai.2.2.1]; exact hB
              rcases ihq (c + 1) (a : Int) arFa arU0 arT0 shN0 shD0 arLU0 arGU0 arBa arMa arRa arLa arAa arSa leNa leDa grNa grDa arHa stFa stNa stDa (by omega) (by omega) (fun z => hmb (by omega)) rfl hBa v9 with ⟨ev', f1, arP1, arF1, arU1, arT1, shN1, shD1, arLU1, arGU1, arB1, arM1, arR1, arL1, arA1, arS1, leN1, leD1, grN1, grD1, arH1, stF1, stN1, stD1, f2, ht⟩ | ⟨f1, arP1, arF1, arU1, arT1, shN1, shD1, arLU1, arGU1, arB1, arM1, arR1, arL1, arA1, arS1, leN1, leD1, grN1, grD1, arH1, stF1, stN1, stD1, f2, f3, ht⟩
              · refine Or.inl ⟨ev', (skip hnn).trans f1, arP1, arF1, arU1, arT1, shN1, shD1, arLU1, arGU1, arB1, arM1, arR1, arL1, arA1, arS1, leN1, leD1, grN1, grD1, arH1, stF1, stN1, stD1, f2, ?_⟩
                refine Rg.step 55 F_PJ_completes_53 rfl (fun _ => rfl) ?_
                refine Rg.bip 57 F_PJ_completes_55 rfl rfl ?_
                refine Rg.step 58 F_PJ_completes_57 rfl (fun _ => rfl) ?_
                refine Rg.addI 59 F_PJ_completes_58 rfl ?_
                refine Rg.icgeI 195 62 F_PJ_completes_59 rfl rfl (by omega) (by omega) (fun h59 => by omega) (fun _ => ?_)
                refine Rg.step 64 F_PJ_completes_62 rfl (fun _ => rfl) ?_
                refine Rg.bip 66 F_PJ_completes_64 rfl rfl ?_
                refine Rg.icgeI 73 69 F_PJ_completes_66 rfl rfl (by omega) (by omega) (fun _ => ?_) (fun h66 => by omega)
                refine Rg.step 74 F_PJ_completes_73 rfl (fun _ => rfl) ?_
                refine Rg.step 76 F_PJ_completes_74 rfl (fun _ => rfl) ?_
                refine Rg.step 78 F_PJ_completes_76 rfl (fun _ => rfl) ?_
                refine Rg.ifeqI 85 81 F_PJ_completes_78 rfl rfl (by omega) (fun _ => ?_) (fun h78 => by omega)
                refine Rg.step 87 F_PJ_completes_85 rfl (fun _ => rfl) ?_
                refine Rg.bip 89 F_PJ_completes_87 rfl rfl ?_
                refine Rg.subI 90 F_PJ_completes_89 rfl ?_
                refine Rg.step 92 F_PJ_completes_90 rfl (fun _ => rfl) ?_
                refine Rg.step 94 F_PJ_completes_92 rfl (fun _ => rfl) ?_
                refine Rg.ifeqI 112 97 F_PJ_completes_94 rfl rfl (by omega) (fun _ => ?_) (fun h94 => by omega)
                refine Rg.step 113 F_PJ_completes_112 rfl (fun _ => rfl) ?_
                refine Rg.step 115 F_PJ_completes_113 rfl (fun _ => rfl) ?_
                refine Rg.call 118 F_PJ_completes_115 rfl (one_V rM_1_278 (by decide) (by simp) rfl rfl gC_49 rfl) (Nat.le_of_ble_eq_true rfl) (Cg.any (c_Ar_isOpen (by omega))) ?_
                refine Rg.ifeqP 189 121 F_PJ_completes_118 rfl rfl (fun h118 => absurd hact h118) (fun _ => ?_)
                refine Rg.step 123 F_PJ_completes_121 rfl (fun _ => rfl) ?_
                refine Rg.ifeqI 133 126 F_PJ_completes_123 rfl rfl (by omega) (fun _ => ?_) (fun h123 => by omega)
                refine Rg.step 134 F_PJ_completes_133 rfl (fun _ => rfl) ?_
                refine Rg.step 136 F_PJ_completes_134 rfl (fun _ => rfl) ?_
                refine Rg.mulI 137 F_PJ_completes_136 rfl ?_
                refine Rg.step 138 F_PJ_completes_137 rfl (fun _ => rfl) ?_
                refine Rg.addI 139 F_PJ_completes_138 rfl ?_
                refine Rg.step 141 F_PJ_completes_139 rfl (fun _ => rfl) ?_
                refine Rg.step 143 F_PJ_completes_141 rfl (fun _ => rfl) ?_
                refine Rg.ifeqI 151 146 F_PJ_completes_143 rfl rfl (by omega) (fun _ => ?_) (fun h143 => by omega)
                refine Rg.step 152 F_PJ_completes_151 rfl (fun _ => rfl) ?_
                refine Rg.getf 155 F_PJ_completes_152 rfl rF_1_281 gC_49 rfl ?_
                refine Rg.step 157 F_PJ_completes_155 rfl (fun _ => rfl) ?_
                refine Rg.ild 158 F_PJ_completes_157 rfl gC_54 (by omega) (by decide) ?_
                rw [eAr]
                refine Rg.step 160 F_PJ_completes_158 rfl (fun _ => rfl) ?_
                refine Rg.step 161 F_PJ_completes_160 rfl (fun _ => rfl) ?_
                refine Rg.step 162 F_PJ_completes_161 rfl (fun _ => rfl) ?_
                refine Rg.step 164 F_PJ_completes_162 rfl (fun _ => rfl) ?_
                refine Rg.step 166 F_PJ_completes_164 rfl (fun _ => rfl) ?_
                refine Rg.call 169 F_PJ_completes_166 rfl (one_V rM_1_282 (by decide) (by simp) rfl rfl gC_49 rfl) (Nat.le_of_ble_eq_true rfl) hc1 ?_
                refine Rg.ifneI 189 172 F_PJ_completes_169 rfl rfl (by omega) (fun _ => ?_) (fun h169 => by omega)
                refine Rg.inc 192 F_PJ_completes_189 rfl rfl (by decide) ?_
                refine Rg.step 53 F_PJ_completes_192 rfl (fun _ => rfl) ?_
                exact Rg.weak ht (by simp [lput1, lput2, Value.category, fi0, fi1, fi2, fi3] <;> first | rfl | exact ⟨rfl, rfl⟩) (by simp [lput1, lput2, Value.category, fi0, fi1, fi2, fi3] <;> first | rfl | exact ⟨rfl, rfl⟩)
              · refine Or.inr ⟨(skip hnn).trans f1, arP1, arF1, arU1, arT1, shN1, shD1, arLU1, arGU1, arB1, arM1, arR1, arL1, arA1, arS1, leN1, leD1, grN1, grD1, arH1, stF1, stN1, stD1, f2, f3, ?_⟩
                refine Rg.step 55 F_PJ_completes_53 rfl (fun _ => rfl) ?_
                refine Rg.bip 57 F_PJ_completes_55 rfl rfl ?_
                refine Rg.step 58 F_PJ_completes_57 rfl (fun _ => rfl) ?_
                refine Rg.addI 59 F_PJ_completes_58 rfl ?_
                refine Rg.icgeI 195 62 F_PJ_completes_59 rfl rfl (by omega) (by omega) (fun h59 => by omega) (fun _ => ?_)
                refine Rg.step 64 F_PJ_completes_62 rfl (fun _ => rfl) ?_
                refine Rg.bip 66 F_PJ_completes_64 rfl rfl ?_
                refine Rg.icgeI 73 69 F_PJ_completes_66 rfl rfl (by omega) (by omega) (fun _ => ?_) (fun h66 => by omega)
                refine Rg.step 74 F_PJ_completes_73 rfl (fun _ => rfl) ?_
                refine Rg.step 76 F_PJ_completes_74 rfl (fun _ => rfl) ?_
                refine Rg.step 78 F_PJ_completes_76 rfl (fun _ => rfl) ?_
                refine Rg.ifeqI 85 81 F_PJ_completes_78 rfl rfl (by omega) (fun _ => ?_) (fun h78 => by omega)
                refine Rg.step 87 F_PJ_completes_85 rfl (fun _ => rfl) ?_
                refine Rg.bip 89 F_PJ_completes_87 rfl rfl ?_
                refine Rg.subI 90 F_PJ_completes_89 rfl ?_
                refine Rg.step 92 F_PJ_completes_90 rfl (fun _ => rfl) ?_
                refine Rg.step 94 F_PJ_completes_92 rfl (fun _ => rfl) ?_
                refine Rg.ifeqI 112 97 F_PJ_completes_94 rfl rfl (by omega) (fun _ => ?_) (fun h94 => by omega)
                refine Rg.step 113 F_PJ_completes_112 rfl (fun _ => rfl) ?_
                refine Rg.step 115 F_PJ_completes_113 rfl (fun _ => rfl) ?_
                refine Rg.call 118 F_PJ_completes_115 rfl (one_V rM_1_278 (by decide) (by simp) rfl rfl gC_49 rfl) (Nat.le_of_ble_eq_true rfl) (Cg.any (c_Ar_isOpen (by omega))) ?_
                refine Rg.ifeqP 189 121 F_PJ_completes_118 rfl rfl (fun h118 => absurd hact h118) (fun _ => ?_)
                refine Rg.step 123 F_PJ_completes_121 rfl (fun _ => rfl) ?_
                refine Rg.ifeqI 133 126 F_PJ_completes_123 rfl rfl (by omega) (fun _ => ?_) (fun h123 => by omega)
                refine Rg.step 134 F_PJ_completes_133 rfl (fun _ => rfl) ?_
                refine Rg.step 136 F_PJ_completes_134 rfl (fun _ => rfl) ?_
                refine Rg.mulI 137 F_PJ_completes_136 rfl ?_
                refine Rg.step 138 F_PJ_completes_137 rfl (fun _ => rfl) ?_
                refine Rg.addI 139 F_PJ_completes_138 rfl ?_
                refine Rg.step 141 F_PJ_completes_139 rfl (fun _ => rfl) ?_
                refine Rg.step 143 F_PJ_completes_141 rfl (fun _ => rfl) ?_
                refine Rg.ifeqI 151 146 F_PJ_completes_143 rfl rfl (by omega) (fun _ => ?_) (fun h143 => by omega)
                refine Rg.step 152 F_PJ_completes_151 rfl (fun _ => rfl) ?_
                refine Rg.getf 155 F_PJ_completes_152 rfl rF_1_281 gC_49 rfl ?_
                refine Rg.step 157 F_PJ_completes_155 rfl (fun _ => rfl) ?_
                refine Rg.ild 158 F_PJ_completes_157 rfl gC_54 (by omega) (by decide) ?_
                rw [eAr]
                refine Rg.step 160 F_PJ_completes_158 rfl (fun _ => rfl) ?_
                refine Rg.step 161 F_PJ_completes_160 rfl (fun _ => rfl) ?_
                refine Rg.step 162 F_PJ_completes_161 rfl (fun _ => rfl) ?_
                refine Rg.step 164 F_PJ_completes_162 rfl (fun _ => rfl) ?_
                refine Rg.step 166 F_PJ_completes_164 rfl (fun _ => rfl) ?_
                refine Rg.call 169 F_PJ_completes_166 rfl (one_V rM_1_282 (by decide) (by simp) rfl rfl gC_49 rfl) (Nat.le_of_ble_eq_true rfl) hc1 ?_
                refine Rg.ifneI 189 172 F_PJ_completes_169 rfl rfl (by omega) (fun _ => ?_) (fun h169 => by omega)
                refine Rg.inc 192 F_PJ_completes_189 rfl rfl (by decide) ?_
                refine Rg.step 53 F_PJ_completes_192 rfl (fun _ => rfl) ?_
                exact Rg.weak ht (by simp [lput1, lput2, Value.category, fi0, fi1, fi2, fi3] <;> first | rfl | exact ⟨rfl, rfl⟩) (by simp [lput1, lput2, Value.category, fi0, fi1, fi2, fi3] <;> first | rfl | exact ⟨rfl, rfl⟩)
            · skip
              have hnn : (fun c => findE (GoodE actions (fun S a t => fit needs needTime needOf needHow needN needD S.1 S.2.1 S.2.2 a t) (fun S a t => chAll changeTime changeOf changeHow changeN changeD t (changes a).toNat (6 * a) S) (fun S a => (lbN lastOf lastN lastD epsilonN epsilonD S.2.1 S.2.2 a, lbD lastOf lastN lastD epsilonN epsilonD S.2.1 S.2.2 a, gbN lastOf lastN lastD S.2.1 S.2.2 a, gbD lastOf lastN lastD S.2.1 S.2.2 a)) (fun S => goal wishes wants wantN wantD S.1 S.2.1 S.2.2) (fun a t b u => interf needs needTime needHow needOf lastOf changes changeTime changeHow changeOf a t b u) epsilonN epsilonD (fiF, fiN, fiD) many) n ((a : Int) + 1) (up1 ev (a : Int) c)) c = none := hbadno (Or.inr ⟨by rw [hS]; exact hf, Or.inl (by rw [hS]; exact v2)⟩)
              subst v1
              subst v4
              have v9 : ArI A T (intP A needs needTime needHow needOf lastOf changes changeTime changeHow changeOf) (a : Int) σ (β a) arBa arMa arRa arLa arAa arSa leNa leDa grNa grDa arHa stFa stNa stDa := v5.ext (fun i z1 z2 => (hT0 _ i z1 z2).symm) (fun s z1 z2 => (hAe s z1 ((hgT _ _).mp z2)).symm) (fun i j z1 z2 z3 z4 => by
                unfold intP
                rw [hT0 _ i z1 z2, hT0 _ j z3 z4, hAb i z1 z2, hAb j z3 z4])
              have hBa : arBa = m := by rw [v9.2.2.1, ← hai.2.2.1]; exact hB
              rcases ihq (c + 1) (a : Int) arFa arU0 arT0 shN0 shD0 arLU0 arGU0 arBa arMa arRa arLa arAa arSa leNa leDa grNa grDa arHa stFa stNa stDa (by omega) (by omega) (fun z => hmb (by omega)) rfl hBa v9 with ⟨ev', f1, arP1, arF1, arU1, arT1, shN1, shD1, arLU1, arGU1, arB1, arM1, arR1, arL1, arA1, arS1, leN1, leD1, grN1, grD1, arH1, stF1, stN1, stD1, f2, ht⟩ | ⟨f1, arP1, arF1, arU1, arT1, shN1, shD1, arLU1, arGU1, arB1, arM1, arR1, arL1, arA1, arS1, leN1, leD1, grN1, grD1, arH1, stF1, stN1, stD1, f2, f3, ht⟩
              · refine Or.inl ⟨ev', (skip hnn).trans f1, arP1, arF1, arU1, arT1, shN1, shD1, arLU1, arGU1, arB1, arM1, arR1, arL1, arA1, arS1, leN1, leD1, grN1, grD1, arH1, stF1, stN1, stD1, f2, ?_⟩
                refine Rg.step 55 F_PJ_completes_53 rfl (fun _ => rfl) ?_
                refine Rg.bip 57 F_PJ_completes_55 rfl rfl ?_
                refine Rg.step 58 F_PJ_completes_57 rfl (fun _ => rfl) ?_
                refine Rg.addI 59 F_PJ_completes_58 rfl ?_
                refine Rg.icgeI 195 62 F_PJ_completes_59 rfl rfl (by omega) (by omega) (fun h59 => by omega) (fun _ => ?_)
                refine Rg.step 64 F_PJ_completes_62 rfl (fun _ => rfl) ?_
                refine Rg.bip 66 F_PJ_completes_64 rfl rfl ?_
                refine Rg.icgeI 73 69 F_PJ_completes_66 rfl rfl (by omega) (by omega) (fun _ => ?_) (fun h66 => by omega)
                refine Rg.step 74 F_PJ_completes_73 rfl (fun _ => rfl) ?_
                refine Rg.step 76 F_PJ_completes_74 rfl (fun _ => rfl) ?_
                refine Rg.step 78 F_PJ_completes_76 rfl (fun _ => rfl) ?_
                refine Rg.ifeqI 85 81 F_PJ_completes_78 rfl rfl (by omega) (fun _ => ?_) (fun h78 => by omega)
                refine Rg.step 87 F_PJ_completes_85 rfl (fun _ => rfl) ?_
                refine Rg.bip 89 F_PJ_completes_87 rfl rfl ?_
                refine Rg.subI 90 F_PJ_completes_89 rfl ?_
                refine Rg.step 92 F_PJ_completes_90 rfl (fun _ => rfl) ?_
                refine Rg.step 94 F_PJ_completes_92 rfl (fun _ => rfl) ?_
                refine Rg.ifeqI 112 97 F_PJ_completes_94 rfl rfl (by omega) (fun _ => ?_) (fun h94 => by omega)
                refine Rg.step 113 F_PJ_completes_112 rfl (fun _ => rfl) ?_
                refine Rg.step 115 F_PJ_completes_113 rfl (fun _ => rfl) ?_
                refine Rg.call 118 F_PJ_completes_115 rfl (one_V rM_1_278 (by decide) (by simp) rfl rfl gC_49 rfl) (Nat.le_of_ble_eq_true rfl) (Cg.any (c_Ar_isOpen (by omega))) ?_
                refine Rg.ifeqP 189 121 F_PJ_completes_118 rfl rfl (fun h118 => absurd hact h118) (fun _ => ?_)
                refine Rg.step 123 F_PJ_completes_121 rfl (fun _ => rfl) ?_
                refine Rg.ifeqI 133 126 F_PJ_completes_123 rfl rfl (by omega) (fun _ => ?_) (fun h123 => by omega)
                refine Rg.step 134 F_PJ_completes_133 rfl (fun _ => rfl) ?_
                refine Rg.step 136 F_PJ_completes_134 rfl (fun _ => rfl) ?_
                refine Rg.mulI 137 F_PJ_completes_136 rfl ?_
                refine Rg.step 138 F_PJ_completes_137 rfl (fun _ => rfl) ?_
                refine Rg.addI 139 F_PJ_completes_138 rfl ?_
                refine Rg.step 141 F_PJ_completes_139 rfl (fun _ => rfl) ?_
                refine Rg.step 143 F_PJ_completes_141 rfl (fun _ => rfl) ?_
                refine Rg.ifeqI 151 146 F_PJ_completes_143 rfl rfl (by omega) (fun _ => ?_) (fun h143 => by omega)
                refine Rg.step 152 F_PJ_completes_151 rfl (fun _ => rfl) ?_
                refine Rg.getf 155 F_PJ_completes_152 rfl rF_1_281 gC_49 rfl ?_
                refine Rg.step 157 F_PJ_completes_155 rfl (fun _ => rfl) ?_
                refine Rg.ild 158 F_PJ_completes_157 rfl gC_54 (by omega) (by decide) ?_
                rw [eAr]
                refine Rg.step 160 F_PJ_completes_158 rfl (fun _ => rfl) ?_
                refine Rg.step 161 F_PJ_completes_160 rfl (fun _ => rfl) ?_
                refine Rg.step 162 F_PJ_completes_161 rfl (fun _ => rfl) ?_
                refine Rg.step 164 F_PJ_completes_162 rfl (fun _ => rfl) ?_
                refine Rg.step 166 F_PJ_completes_164 rfl (fun _ => rfl) ?_
                refine Rg.call 169 F_PJ_completes_166 rfl (one_V rM_1_282 (by decide) (by simp) rfl rfl gC_49 rfl) (Nat.le_of_ble_eq_true rfl) hc1 ?_
                refine Rg.ifneI 189 172 F_PJ_completes_169 rfl rfl (by omega) (fun _ => ?_) (fun h169 => by omega)
                refine Rg.inc 192 F_PJ_completes_189 rfl rfl (by decide) ?_
                refine Rg.step 53 F_PJ_completes_192 rfl (fun _ => rfl) ?_
                exact Rg.weak ht (by simp [lput1, lput2, Value.category, fi0, fi1, fi2, fi3] <;> first | rfl | exact ⟨rfl, rfl⟩) (by simp [lput1, lput2, Value.category, fi0, fi1, fi2, fi3] <;> first | rfl | exact ⟨rfl, rfl⟩)
              · refine Or.inr ⟨(skip hnn).trans f1, arP1, arF1, arU1, arT1, shN1, shD1, arLU1, arGU1, arB1, arM1, arR1, arL1, arA1, arS1, leN1, leD1, grN1, grD1, arH1, stF1, stN1, stD1, f2, f3, ?_⟩
                refine Rg.step 55 F_PJ_completes_53 rfl (fun _ => rfl) ?_
                refine Rg.bip 57 F_PJ_completes_55 rfl rfl ?_
                refine Rg.step 58 F_PJ_completes_57 rfl (fun _ => rfl) ?_
                refine Rg.addI 59 F_PJ_completes_58 rfl ?_
                refine Rg.icgeI 195 62 F_PJ_completes_59 rfl rfl (by omega) (by omega) (fun h59 => by omega) (fun _ => ?_)
                refine Rg.step 64 F_PJ_completes_62 rfl (fun _ => rfl) ?_
                refine Rg.bip 66 F_PJ_completes_64 rfl rfl ?_
                refine Rg.icgeI 73 69 F_PJ_completes_66 rfl rfl (by omega) (by omega) (fun _ => ?_) (fun h66 => by omega)
                refine Rg.step 74 F_PJ_completes_73 rfl (fun _ => rfl) ?_
                refine Rg.step 76 F_PJ_completes_74 rfl (fun _ => rfl) ?_
                refine Rg.step 78 F_PJ_completes_76 rfl (fun _ => rfl) ?_
                refine Rg.ifeqI 85 81 F_PJ_completes_78 rfl rfl (by omega) (fun _ => ?_) (fun h78 => by omega)
                refine Rg.step 87 F_PJ_completes_85 rfl (fun _ => rfl) ?_
                refine Rg.bip 89 F_PJ_completes_87 rfl rfl ?_
                refine Rg.subI 90 F_PJ_completes_89 rfl ?_
                refine Rg.step 92 F_PJ_completes_90 rfl (fun _ => rfl) ?_
                refine Rg.step 94 F_PJ_completes_92 rfl (fun _ => rfl) ?_
                refine Rg.ifeqI 112 97 F_PJ_completes_94 rfl rfl (by omega) (fun _ => ?_) (fun h94 => by omega)
                refine Rg.step 113 F_PJ_completes_112 rfl (fun _ => rfl) ?_
                refine Rg.step 115 F_PJ_completes_113 rfl (fun _ => rfl) ?_
                refine Rg.call 118 F_PJ_completes_115 rfl (one_V rM_1_278 (by decide) (by simp) rfl rfl gC_49 rfl) (Nat.le_of_ble_eq_true rfl) (Cg.any (c_Ar_isOpen (by omega))) ?_
                refine Rg.ifeqP 189 121 F_PJ_completes_118 rfl rfl (fun h118 => absurd hact h118) (fun _ => ?_)
                refine Rg.step 123 F_PJ_completes_121 rfl (fun _ => rfl) ?_
                refine Rg.ifeqI 133 126 F_PJ_completes_123 rfl rfl (by omega) (fun _ => ?_) (fun h123 => by omega)
                refine Rg.step 134 F_PJ_completes_133 rfl (fun _ => rfl) ?_
                refine Rg.step 136 F_PJ_completes_134 rfl (fun _ => rfl) ?_
                refine Rg.mulI 137 F_PJ_completes_136 rfl ?_
                refine Rg.step 138 F_PJ_completes_137 rfl (fun _ => rfl) ?_
                refine Rg.addI 139 F_PJ_completes_138 rfl ?_
                refine Rg.step 141 F_PJ_completes_139 rfl (fun _ => rfl) ?_
                refine Rg.step 143 F_PJ_completes_141 rfl (fun _ => rfl) ?_
                refine Rg.ifeqI 151 146 F_PJ_completes_143 rfl rfl (by omega) (fun _ => ?_) (fun h143 => by omega)
                refine Rg.step 152 F_PJ_completes_151 rfl (fun _ => rfl) ?_
                refine Rg.getf 155 F_PJ_completes_152 rfl rF_1_281 gC_49 rfl ?_
                refine Rg.step 157 F_PJ_completes_155 rfl (fun _ => rfl) ?_
                refine Rg.ild 158 F_PJ_completes_157 rfl gC_54 (by omega) (by decide) ?_
                rw [eAr]
                refine Rg.step 160 F_PJ_completes_158 rfl (fun _ => rfl) ?_
                refine Rg.step 161 F_PJ_completes_160 rfl (fun _ => rfl) ?_
                refine Rg.step 162 F_PJ_completes_161 rfl (fun _ => rfl) ?_
                refine Rg.step 164 F_PJ_completes_162 rfl (fun _ => rfl) ?_
                refine Rg.step 166 F_PJ_completes_164 rfl (fun _ => rfl) ?_
                refine Rg.call 169 F_PJ_completes_166 rfl (one_V rM_1_282 (by decide) (by simp) rfl rfl gC_49 rfl) (Nat.le_of_ble_eq_true rfl) hc1 ?_
                refine Rg.ifneI 189 172 F_PJ_completes_169 rfl rfl (by omega) (fun _ => ?_) (fun h169 => by omega)
                refine Rg.inc 192 F_PJ_completes_189 rfl rfl (by decide) ?_
                refine Rg.step 53 F_PJ_completes_192 rfl (fun _ => rfl) ?_
                exact Rg.weak ht (by simp [lput1, lput2, Value.category, fi0, fi1, fi2, fi3] <;> first | rfl | exact ⟨rfl, rfl⟩) (by simp [lput1, lput2, Value.category, fi0, fi1, fi2, fi3] <;> first | rfl | exact ⟨rfl, rfl⟩)
            · skip
              have hq9 : q9 < m := by
                obtain ⟨i, y1, y2, y3⟩ := v3.1
                have := hpt i y1 y2
                omega
              have hnn : (fun c => findE (GoodE actions (fun S a t => fit needs needTime needOf needHow needN needD S.1 S.2.1 S.2.2 a t) (fun S a t => chAll changeTime changeOf changeHow changeN changeD t (changes a).toNat (6 * a) S) (fun S a => (lbN lastOf lastN lastD epsilonN epsilonD S.2.1 S.2.2 a, lbD lastOf lastN lastD epsilonN epsilonD S.2.1 S.2.2 a, gbN lastOf lastN lastD S.2.1 S.2.2 a, gbD lastOf lastN lastD S.2.1 S.2.2 a)) (fun S => goal wishes wants wantN wantD S.1 S.2.1 S.2.2) (fun a t b u => interf needs needTime needHow needOf lastOf changes changeTime changeHow changeOf a t b u) epsilonN epsilonD (fiF, fiN, fiD) many) n ((a : Int) + 1) (up1 ev (a : Int) c)) c = none := hbadno (Or.inr ⟨by rw [hS]; exact hf, Or.inr ⟨(F2, N2, D2), by rw [hS]; exact hcc, q9, q1, hq9, v3, v3b⟩⟩)
              subst v1
              subst v4
              have v9 : ArI A T (intP A needs needTime needHow needOf lastOf changes changeTime changeHow changeOf) (a : Int) σ (β a) arBa arMa arRa arLa arAa arSa leNa leDa grNa grDa arHa stFa stNa stDa := v5.ext (fun i z1 z2 => (hT0 _ i z1 z2).symm) (fun s z1 z2 => (hAe s z1 ((hgT _ _).mp z2)).symm) (fun i j z1 z2 z3 z4 => by
                unfold intP
                rw [hT0 _ i z1 z2, hT0 _ j z3 z4, hAb i z1 z2, hAb j z3 z4])
              have hBa : arBa = m := by rw [v9.2.2.1, ← hai.2.2.1]; exact hB
              rcases ihq (c + 1) (a : Int) arFa arU0 arT0 shN0 shD0 arLU0 arGU0 arBa arMa arRa arLa arAa arSa leNa leDa grNa grDa arHa stFa stNa stDa (by omega) (by omega) (fun z => hmb (by omega)) rfl hBa v9 with ⟨ev', f1, arP1, arF1, arU1, arT1, shN1, shD1, arLU1, arGU1, arB1, arM1, arR1, arL1, arA1, arS1, leN1, leD1, grN1, grD1, arH1, stF1, stN1, stD1, f2, ht⟩ | ⟨f1, arP1, arF1, arU1, arT1, shN1, shD1, arLU1, arGU1, arB1, arM1, arR1, arL1, arA1, arS1, leN1, leD1, grN1, grD1, arH1, stF1, stN1, stD1, f2, f3, ht⟩
              · refine Or.inl ⟨ev', (skip hnn).trans f1, arP1, arF1, arU1, arT1, shN1, shD1, arLU1, arGU1, arB1, arM1, arR1, arL1, arA1, arS1, leN1, leD1, grN1, grD1, arH1, stF1, stN1, stD1, f2, ?_⟩
                refine Rg.step 55 F_PJ_completes_53 rfl (fun _ => rfl) ?_
                refine Rg.bip 57 F_PJ_completes_55 rfl rfl ?_
                refine Rg.step 58 F_PJ_completes_57 rfl (fun _ => rfl) ?_
                refine Rg.addI 59 F_PJ_completes_58 rfl ?_
                refine Rg.icgeI 195 62 F_PJ_completes_59 rfl rfl (by omega) (by omega) (fun h59 => by omega) (fun _ => ?_)
                refine Rg.step 64 F_PJ_completes_62 rfl (fun _ => rfl) ?_
                refine Rg.bip 66 F_PJ_completes_64 rfl rfl ?_
                refine Rg.icgeI 73 69 F_PJ_completes_66 rfl rfl (by omega) (by omega) (fun _ => ?_) (fun h66 => by omega)
                refine Rg.step 74 F_PJ_completes_73 rfl (fun _ => rfl) ?_
                refine Rg.step 76 F_PJ_completes_74 rfl (fun _ => rfl) ?_
                refine Rg.step 78 F_PJ_completes_76 rfl (fun _ => rfl) ?_
                refine Rg.ifeqI 85 81 F_PJ_completes_78 rfl rfl (by omega) (fun _ => ?_) (fun h78 => by omega)
                refine Rg.step 87 F_PJ_completes_85 rfl (fun _ => rfl) ?_
                refine Rg.bip 89 F_PJ_completes_87 rfl rfl ?_
                refine Rg.subI 90 F_PJ_completes_89 rfl ?_
                refine Rg.step 92 F_PJ_completes_90 rfl (fun _ => rfl) ?_
                refine Rg.step 94 F_PJ_completes_92 rfl (fun _ => rfl) ?_
                refine Rg.ifeqI 112 97 F_PJ_completes_94 rfl rfl (by omega) (fun _ => ?_) (fun h94 => by omega)
                refine Rg.step 113 F_PJ_completes_112 rfl (fun _ => rfl) ?_
                refine Rg.step 115 F_PJ_completes_113 rfl (fun _ => rfl) ?_
                refine Rg.call 118 F_PJ_completes_115 rfl (one_V rM_1_278 (by decide) (by simp) rfl rfl gC_49 rfl) (Nat.le_of_ble_eq_true rfl) (Cg.any (c_Ar_isOpen (by omega))) ?_
                refine Rg.ifeqP 189 121 F_PJ_completes_118 rfl rfl (fun h118 => absurd hact h118) (fun _ => ?_)
                refine Rg.step 123 F_PJ_completes_121 rfl (fun _ => rfl) ?_
                refine Rg.ifeqI 133 126 F_PJ_completes_123 rfl rfl (by omega) (fun _ => ?_) (fun h123 => by omega)
                refine Rg.step 134 F_PJ_completes_133 rfl (fun _ => rfl) ?_
                refine Rg.step 136 F_PJ_completes_134 rfl (fun _ => rfl) ?_
                refine Rg.mulI 137 F_PJ_completes_136 rfl ?_
                refine Rg.step 138 F_PJ_completes_137 rfl (fun _ => rfl) ?_
                refine Rg.addI 139 F_PJ_completes_138 rfl ?_
                refine Rg.step 141 F_PJ_completes_139 rfl (fun _ => rfl) ?_
                refine Rg.step 143 F_PJ_completes_141 rfl (fun _ => rfl) ?_
                refine Rg.ifeqI 151 146 F_PJ_completes_143 rfl rfl (by omega) (fun _ => ?_) (fun h143 => by omega)
                refine Rg.step 152 F_PJ_completes_151 rfl (fun _ => rfl) ?_
                refine Rg.getf 155 F_PJ_completes_152 rfl rF_1_281 gC_49 rfl ?_
                refine Rg.step 157 F_PJ_completes_155 rfl (fun _ => rfl) ?_
                refine Rg.ild 158 F_PJ_completes_157 rfl gC_54 (by omega) (by decide) ?_
                rw [eAr]
                refine Rg.step 160 F_PJ_completes_158 rfl (fun _ => rfl) ?_
                refine Rg.step 161 F_PJ_completes_160 rfl (fun _ => rfl) ?_
                refine Rg.step 162 F_PJ_completes_161 rfl (fun _ => rfl) ?_
                refine Rg.step 164 F_PJ_completes_162 rfl (fun _ => rfl) ?_
                refine Rg.step 166 F_PJ_completes_164 rfl (fun _ => rfl) ?_
                refine Rg.call 169 F_PJ_completes_166 rfl (one_V rM_1_282 (by decide) (by simp) rfl rfl gC_49 rfl) (Nat.le_of_ble_eq_true rfl) hc1 ?_
                refine Rg.ifneI 189 172 F_PJ_completes_169 rfl rfl (by omega) (fun _ => ?_) (fun h169 => by omega)
                refine Rg.inc 192 F_PJ_completes_189 rfl rfl (by decide) ?_
                refine Rg.step 53 F_PJ_completes_192 rfl (fun _ => rfl) ?_
                exact Rg.weak ht (by simp [lput1, lput2, Value.category, fi0, fi1, fi2, fi3] <;> first | rfl | exact ⟨rfl, rfl⟩) (by simp [lput1, lput2, Value.category, fi0, fi1, fi2, fi3] <;> first | rfl | exact ⟨rfl, rfl⟩)
              · refine Or.inr ⟨(skip hnn).trans f1, arP1, arF1, arU1, arT1, shN1, shD1, arLU1, arGU1, arB1, arM1, arR1, arL1, arA1, arS1, leN1, leD1, grN1, grD1, arH1, stF1, stN1, stD1, f2, f3, ?_⟩
                refine Rg.step 55 F_PJ_completes_53 rfl (fun _ => rfl) ?_
                refine Rg.bip 57 F_PJ_completes_55 rfl rfl ?_
                refine Rg.step 58 F_PJ_completes_57 rfl (fun _ => rfl) ?_
                refine Rg.addI 59 F_PJ_completes_58 rfl ?_
                refine Rg.icgeI 195 62 F_PJ_completes_59 rfl rfl (by omega) (by omega) (fun h59 => by omega) (fun _ => ?_)
                refine Rg.step 64 F_PJ_completes_62 rfl (fun _ => rfl) ?_
                refine Rg.bip 66 F_PJ_completes_64 rfl rfl ?_
                refine Rg.icgeI 73 69 F_PJ_completes_66 rfl rfl (by omega) (by omega) (fun _ => ?_) (fun h66 => by omega)
                refine Rg.step 74 F_PJ_completes_73 rfl (fun _ => rfl) ?_
                refine Rg.step 76 F_PJ_completes_74 rfl (fun _ => rfl) ?_
                refine Rg.step 78 F_PJ_completes_76 rfl (fun _ => rfl) ?_
                refine Rg.ifeqI 85 81 F_PJ_completes_78 rfl rfl (by omega) (fun _ => ?_) (fun h78 => by omega)
                refine Rg.step 87 F_PJ_completes_85 rfl (fun _ => rfl) ?_
                refine Rg.bip 89 F_PJ_completes_87 rfl rfl ?_
                refine Rg.subI 90 F_PJ_completes_89 rfl ?_
                refine Rg.step 92 F_PJ_completes_90 rfl (fun _ => rfl) ?_
                refine Rg.step 94 F_PJ_completes_92 rfl (fun _ => rfl) ?_
                refine Rg.ifeqI 112 97 F_PJ_completes_94 rfl rfl (by omega) (fun _ => ?_) (fun h94 => by omega)
                refine Rg.step 113 F_PJ_completes_112 rfl (fun _ => rfl) ?_
                refine Rg.step 115 F_PJ_completes_113 rfl (fun _ => rfl) ?_
                refine Rg.call 118 F_PJ_completes_115 rfl (one_V rM_1_278 (by decide) (by simp) rfl rfl gC_49 rfl) (Nat.le_of_ble_eq_true rfl) (Cg.any (c_Ar_isOpen (by omega))) ?_
                refine Rg.ifeqP 189 121 F_PJ_completes_118 rfl rfl (fun h118 => absurd hact h118) (fun _ => ?_)
                refine Rg.step 123 F_PJ_completes_121 rfl (fun _ => rfl) ?_
                refine Rg.ifeqI 133 126 F_PJ_completes_123 rfl rfl (by omega) (fun _ => ?_) (fun h123 => by omega)
                refine Rg.step 134 F_PJ_completes_133 rfl (fun _ => rfl) ?_
                refine Rg.step 136 F_PJ_completes_134 rfl (fun _ => rfl) ?_
                refine Rg.mulI 137 F_PJ_completes_136 rfl ?_
                refine Rg.step 138 F_PJ_completes_137 rfl (fun _ => rfl) ?_
                refine Rg.addI 139 F_PJ_completes_138 rfl ?_
                refine Rg.step 141 F_PJ_completes_139 rfl (fun _ => rfl) ?_
                refine Rg.step 143 F_PJ_completes_141 rfl (fun _ => rfl) ?_
                refine Rg.ifeqI 151 146 F_PJ_completes_143 rfl rfl (by omega) (fun _ => ?_) (fun h143 => by omega)
                refine Rg.step 152 F_PJ_completes_151 rfl (fun _ => rfl) ?_
                refine Rg.getf 155 F_PJ_completes_152 rfl rF_1_281 gC_49 rfl ?_
                refine Rg.step 157 F_PJ_completes_155 rfl (fun _ => rfl) ?_
                refine Rg.ild 158 F_PJ_completes_157 rfl gC_54 (by omega) (by decide) ?_
                rw [eAr]
                refine Rg.step 160 F_PJ_completes_158 rfl (fun _ => rfl) ?_
                refine Rg.step 161 F_PJ_completes_160 rfl (fun _ => rfl) ?_
                refine Rg.step 162 F_PJ_completes_161 rfl (fun _ => rfl) ?_
                refine Rg.step 164 F_PJ_completes_162 rfl (fun _ => rfl) ?_
                refine Rg.step 166 F_PJ_completes_164 rfl (fun _ => rfl) ?_
                refine Rg.call 169 F_PJ_completes_166 rfl (one_V rM_1_282 (by decide) (by simp) rfl rfl gC_49 rfl) (Nat.le_of_ble_eq_true rfl) hc1 ?_
                refine Rg.ifneI 189 172 F_PJ_completes_169 rfl rfl (by omega) (fun _ => ?_) (fun h169 => by omega)
                refine Rg.inc 192 F_PJ_completes_189 rfl rfl (by decide) ?_
                refine Rg.step 53 F_PJ_completes_192 rfl (fun _ => rfl) ?_
                exact Rg.weak ht (by simp [lput1, lput2, Value.category, fi0, fi1, fi2, fi3] <;> first | rfl | exact ⟨rfl, rfl⟩) (by simp [lput1, lput2, Value.category, fi0, fi1, fi2, fi3] <;> first | rfl | exact ⟨rfl, rfl⟩)
            · skip
              subst v1
              subst v3
              have hcast : ((a + 1 : Nat) : Int) = (a : Int) + 1 := by omega
              have hpre2 : PreOK (fun S a t => fit needs needTime needOf needHow needN needD S.1 S.2.1 S.2.2 a t) (fun S a t => chAll changeTime changeOf changeHow changeN changeD t (changes a).toNat (6 * a) S) (fun S a => (lbN lastOf lastN lastD epsilonN epsilonD S.2.1 S.2.2 a, lbD lastOf lastN lastD epsilonN epsilonD S.2.1 S.2.2 a, gbN lastOf lastN lastD S.2.1 S.2.2 a, gbD lastOf lastN lastD S.2.1 S.2.2 a)) (fiF, fiN, fiD) A (up1 T (a : Int) (2 * (c - 12) + 1)) ((a + 1 : Nat) : Int) (up1 σ ((a : Int) + 1) (F2, N2, D2)) (up1 β ((a : Int) + 1) (if (up1 T (a : Int) (2 * (c - 12) + 1)) a % 2 = 0 then up1 (β a) ((up1 T (a : Int) (2 * (c - 12) + 1)) a / 2) (lbN lastOf lastN lastD epsilonN epsilonD (stN0 a) (stD0 a) (A ((up1 T (a : Int) (2 * (c - 12) + 1)) a / 2)), lbD lastOf lastN lastD epsilonN epsilonD (stN0 a) (stD0 a) (A ((up1 T (a : Int) (2 * (c - 12) + 1)) a / 2)), gbN lastOf lastN lastD (stN0 a) (stD0 a) (A ((up1 T (a : Int) (2 * (c - 12) + 1)) a / 2)), gbD lastOf lastN lastD (stN0 a) (stD0 a) (A ((up1 T (a : Int) (2 * (c - 12) + 1)) a / 2))) else β a)) := by
                rw [hcast]
                have hq := hpre1.step (S2 := (F2, N2, D2)) (by omega) (by rw [hS]; exact hf) (by rw [hS]; exact hcc) (fun s y1 y2 => by
                  have : s < 12 := by
                    obtain ⟨i, x1, x2, x3⟩ := y2.1
                    have := hpt i x1 x2
                    omega
                  exact v2 s y1 this y2)
                rw [hS] at hq
                exact hq
              have hok2 : ∀ k, 0 ≤ k → k < ((a + 1 : Nat) : Int) → RowOK (up1 T (a : Int) (2 * (c - 12) + 1)) m k := fun k z1 z2 => by
                by_cases h : k = (a : Int)
                · rw [h]; exact hRk
                · exact (hok k z1 (by omega)).ext (by omega) (fun i y1 y2 => hT0 _ i y1 (by omega)) z1
              have hst2 : ∀ s, 0 ≤ s → s < m → grp (up1 T (a : Int) (2 * (c - 12) + 1)) 0 ((a + 1 : Nat) : Int) (2 * s) := fun s z1 z2 => by
                rw [hcast, grp_1 (by omega), hgT, eT]
                exact Or.inl (hst s z1 z2)
              have wNx : WN ((up1 σ ((a : Int) + 1) (F2, N2, D2)) ((a + 1 : Nat) : Int)).2.1 ((up1 σ ((a : Int) + 1) (F2, N2, D2)) ((a + 1 : Nat) : Int)).2.2 := by rw [hcast, up1_eq]; exact wN2
              have hai2 : ArI A (up1 T (a : Int) (2 * (c - 12) + 1)) (intP A needs needTime needHow needOf lastOf changes changeTime changeHow changeOf) ((a + 1 : Nat) : Int) (up1 σ ((a : Int) + 1) (F2, N2, D2)) ((up1 β ((a : Int) + 1) (if (up1 T (a : Int) (2 * (c - 12) + 1)) a % 2 = 0 then up1 (β a) ((up1 T (a : Int) (2 * (c - 12) + 1)) a / 2) (lbN lastOf lastN lastD epsilonN epsilonD (stN0 a) (stD0 a) (A ((up1 T (a : Int) (2 * (c - 12) + 1)) a / 2)), lbD lastOf lastN lastD epsilonN epsilonD (stN0 a) (stD0 a) (A ((up1 T (a : Int) (2 * (c - 12) + 1)) a / 2)), gbN lastOf lastN lastD (stN0 a) (stD0 a) (A ((up1 T (a : Int) (2 * (c - 12) + 1)) a / 2)), gbD lastOf lastN lastD (stN0 a) (stD0 a) (A ((up1 T (a : Int) (2 * (c - 12) + 1)) a / 2))) else β a)) ((a + 1 : Nat) : Int)) arBa arMa arRa arLa arAa arSa leNa leDa grNa grDa arHa stFa stNa stDa := by
                rw [hcast, up1_eq]
                exact v4
              have hrec := ih (a + 1) (up1 ev (a : Int) c) m A (up1 T (a : Int) (2 * (c - 12) + 1)) (up1 σ ((a : Int) + 1) (F2, N2, D2)) (up1 β ((a : Int) + 1) (if (up1 T (a : Int) (2 * (c - 12) + 1)) a % 2 = 0 then up1 (β a) ((up1 T (a : Int) (2 * (c - 12) + 1)) a / 2) (lbN lastOf lastN lastD epsilonN epsilonD (stN0 a) (stD0 a) (A ((up1 T (a : Int) (2 * (c - 12) + 1)) a / 2)), lbD lastOf lastN lastD epsilonN epsilonD (stN0 a) (stD0 a) (A ((up1 T (a : Int) (2 * (c - 12) + 1)) a / 2)), gbN lastOf lastN lastD (stN0 a) (stD0 a) (A ((up1 T (a : Int) (2 * (c - 12) + 1)) a / 2)), gbD lastOf lastN lastD (stN0 a) (stD0 a) (A ((up1 T (a : Int) (2 * (c - 12) + 1)) a / 2))) else β a)) ((a : Int) + 1) arFa arU0 arT0 shN0 shD0 arLU0 arGU0 arBa arMa arRa arLa arAa arSa leNa leDa grNa grDa arHa stFa stNa stDa (by omega) (by rw [hcast]; exact hE1) (by rw [hcast]; exact hev2) (by rw [hcast]) hai2 hpre2 wNx (by rw [hcast]; exact hopn) hok2 hst2
              rw [hcast] at hrec
              rcases hrec with ⟨ev', f1, arP2, arF2, arU2, arT2, shN2, shD2, arLU2, arGU2, arB2, arM2, arR2, arL2, arA2, arS2, leN2, leD2, grN2, grD2, arH2, stF2, stN2, stD2, f2, hc2⟩ | ⟨f1, arP2, arF2, arU2, arT2, shN2, shD2, arLU2, arGU2, arB2, arM2, arR2, arL2, arA2, arS2, leN2, leD2, grN2, grD2, arH2, stF2, stN2, stD2, f2, f3, hc2⟩
              · refine Or.inl ⟨ev', by rw [e15]; exact fstC_y f1, arP2, arF2, arU2, arT2, shN2, shD2, arLU2, arGU2, arB2, arM2, arR2, arL2, arA2, arS2, leN2, leD2, grN2, grD2, arH2, stF2, stN2, stD2, f2, ?_⟩
                refine Rg.step 55 F_PJ_completes_53 rfl (fun _ => rfl) ?_
                refine Rg.bip 57 F_PJ_completes_55 rfl rfl ?_
                refine Rg.step 58 F_PJ_completes_57 rfl (fun _ => rfl) ?_
                refine Rg.addI 59 F_PJ_completes_58 rfl ?_
                refine Rg.icgeI 195 62 F_PJ_completes_59 rfl rfl (by omega) (by omega) (fun h59 => by omega) (fun _ => ?_)
                refine Rg.step 64 F_PJ_completes_62 rfl (fun _ => rfl) ?_
                refine Rg.bip 66 F_PJ_completes_64 rfl rfl ?_
                refine Rg.icgeI 73 69 F_PJ_completes_66 rfl rfl (by omega) (by omega) (fun _ => ?_) (fun h66 => by omega)
                refine Rg.step 74 F_PJ_completes_73 rfl (fun _ => rfl) ?_
                refine Rg.step 76 F_PJ_completes_74 rfl (fun _ => rfl) ?_
                refine Rg.step 78 F_PJ_completes_76 rfl (fun _ => rfl) ?_
                refine Rg.ifeqI 85 81 F_PJ_completes_78 rfl rfl (by omega) (fun _ => ?_) (fun h78 => by omega)
                refine Rg.step 87 F_PJ_completes_85 rfl (fun _ => rfl) ?_
                refine Rg.bip 89 F_PJ_completes_87 rfl rfl ?_
                refine Rg.subI 90 F_PJ_completes_89 rfl ?_
                refine Rg.step 92 F_PJ_completes_90 rfl (fun _ => rfl) ?_
                refine Rg.step 94 F_PJ_completes_92 rfl (fun _ => rfl) ?_
                refine Rg.ifeqI 112 97 F_PJ_completes_94 rfl rfl (by omega) (fun _ => ?_) (fun h94 => by omega)
                refine Rg.step 113 F_PJ_completes_112 rfl (fun _ => rfl) ?_
                refine Rg.step 115 F_PJ_completes_113 rfl (fun _ => rfl) ?_
                refine Rg.call 118 F_PJ_completes_115 rfl (one_V rM_1_278 (by decide) (by simp) rfl rfl gC_49 rfl) (Nat.le_of_ble_eq_true rfl) (Cg.any (c_Ar_isOpen (by omega))) ?_
                refine Rg.ifeqP 189 121 F_PJ_completes_118 rfl rfl (fun h118 => absurd hact h118) (fun _ => ?_)
                refine Rg.step 123 F_PJ_completes_121 rfl (fun _ => rfl) ?_
                refine Rg.ifeqI 133 126 F_PJ_completes_123 rfl rfl (by omega) (fun _ => ?_) (fun h123 => by omega)
                refine Rg.step 134 F_PJ_completes_133 rfl (fun _ => rfl) ?_
                refine Rg.step 136 F_PJ_completes_134 rfl (fun _ => rfl) ?_
                refine Rg.mulI 137 F_PJ_completes_136 rfl ?_
                refine Rg.step 138 F_PJ_completes_137 rfl (fun _ => rfl) ?_
                refine Rg.addI 139 F_PJ_completes_138 rfl ?_
                refine Rg.step 141 F_PJ_completes_139 rfl (fun _ => rfl) ?_
                refine Rg.step 143 F_PJ_completes_141 rfl (fun _ => rfl) ?_
                refine Rg.ifeqI 151 146 F_PJ_completes_143 rfl rfl (by omega) (fun _ => ?_) (fun h143 => by omega)
                refine Rg.step 152 F_PJ_completes_151 rfl (fun _ => rfl) ?_
                refine Rg.getf 155 F_PJ_completes_152 rfl rF_1_281 gC_49 rfl ?_
                refine Rg.step 157 F_PJ_completes_155 rfl (fun _ => rfl) ?_
                refine Rg.ild 158 F_PJ_completes_157 rfl gC_54 (by omega) (by decide) ?_
                rw [eAr]
                refine Rg.step 160 F_PJ_completes_158 rfl (fun _ => rfl) ?_
                refine Rg.step 161 F_PJ_completes_160 rfl (fun _ => rfl) ?_
                refine Rg.step 162 F_PJ_completes_161 rfl (fun _ => rfl) ?_
                refine Rg.step 164 F_PJ_completes_162 rfl (fun _ => rfl) ?_
                refine Rg.step 166 F_PJ_completes_164 rfl (fun _ => rfl) ?_
                refine Rg.call 169 F_PJ_completes_166 rfl (one_V rM_1_282 (by decide) (by simp) rfl rfl gC_49 rfl) (Nat.le_of_ble_eq_true rfl) hc1 ?_
                refine Rg.ifneI 189 172 F_PJ_completes_169 rfl rfl (by omega) (fun h169 => by omega) (fun _ => ?_)
                refine Rg.step 173 F_PJ_completes_172 rfl (fun _ => rfl) ?_
                refine Rg.step 174 F_PJ_completes_173 rfl (fun _ => rfl) ?_
                refine Rg.step 175 F_PJ_completes_174 rfl (fun _ => rfl) ?_
                refine Rg.step 176 F_PJ_completes_175 rfl (fun _ => rfl) ?_
                refine Rg.subI 177 F_PJ_completes_176 rfl ?_
                rw [show (n : Int) + 1 - 1 = (n : Int) by omega]
                refine Rg.call 180 F_PJ_completes_177 rfl (one_S (by decide +kernel) rM_1_222 (by decide) (by simp) rfl rfl) (Nat.le_of_ble_eq_true rfl) hc2 ?_
                refine Rg.ifeqP 185 183 F_PJ_completes_180 rfl rfl (fun h180 => absurd trivial h180) (fun _ => ?_)
                refine Rg.step 184 F_PJ_completes_183 rfl (fun _ => rfl) ?_
                exact Rg.ret1 F_PJ_completes_184 rfl trivial rfl
              · have hnn : (fun c => findE (GoodE actions (fun S a t => fit needs needTime needOf needHow needN needD S.1 S.2.1 S.2.2 a t) (fun S a t => chAll changeTime changeOf changeHow changeN changeD t (changes a).toNat (6 * a) S) (fun S a => (lbN lastOf lastN lastD epsilonN epsilonD S.2.1 S.2.2 a, lbD lastOf lastN lastD epsilonN epsilonD S.2.1 S.2.2 a, gbN lastOf lastN lastD S.2.1 S.2.2 a, gbD lastOf lastN lastD S.2.1 S.2.2 a)) (fun S => goal wishes wants wantN wantD S.1 S.2.1 S.2.2) (fun a t b u => interf needs needTime needHow needOf lastOf changes changeTime changeHow changeOf a t b u) epsilonN epsilonD (fiF, fiN, fiD) many) n ((a : Int) + 1) (up1 ev (a : Int) c)) c = none := f1
                subst f2
                have hRa : arR2 (a : Int) = (2 * (c - 12) + 1) := by rw [f3.1 (a : Int) (by omega) (by omega), eT]
                have hbk := c_Ar_back (d := d + 6 + n) (actions := actions) (k := (a : Int)) (s0 := s0) (s1 := s1) (rest := rest) (handN := handN) (handD := handD) (gT := gT) (gF := gF) (alE := alE) (alM := alM) (fiF := fiF) (fiN := fiN) (fiD := fiD) (epN := epN) (epD := epD) (goH := goH) (goN := goN) (goD := goD) (plS := plS) (plP := plP) (plM := plM) (plA := plA) (plBN := plBN) (plBD := plBD) (plLN := plLN) (plLD := plLD) (plR := plR) (veW := veW) (veF := veF) (veP := veP) (vsF := vsF) (vsN := vsN) (vsD := vsD) (juM := juM) (juP := juP) (juTN := juTN) (juTD := juTD) (juO := juO) (scN := scN) (scD := scD) (noF := noF) (noN := noN) (noD := noD) (neF := neF) (neN := neN) (neD := neD) (arB := arB2) (arM := arM2) (arU := arU2) (arF := arF2) (arR := arR2) (arL := arL2) (arT := arT2) (arA := arA2) (arS := arS2) (leN := leN2) (leD := leD2) (grN := grN2) (grD := grD2) (arH := arH2) (arLU := arLU2) (arGU := arGU2) (shN := shN2) (shD := shD2) (stF := stF2) (stN := stN2) (stD := stD2) (by omega) (by rw [hRa]; omega)
                have hai3 := f3.back (σ := σ) (B := β a) (m := m) (arB1 := if arR2 (a : Int) % 2 = 0 then arB2 - 1 else arB2) (by omega) hRk (by omega) (fun i z1 z2 => up1_ne _ _ (by omega)) (fun s z1 z2 => by
                  rw [up1_eq]
                  split
                  · rw [up1_ne _ _ (fun z => ?_)]
                    rw [z] at z2
                    exact hRk.2.1 (by rw [show 2 * ((up1 T (a : Int) (2 * (c - 12) + 1)) a / 2) = (up1 T (a : Int) (2 * (c - 12) + 1)) a by omega] at z2; exact z2)
                  · rfl) (fun s z1 z2 => by
                  obtain ⟨b1, b2, -⟩ := f3.2.2.2.2.1 s z1 ((grp_1 (by omega)).mpr (Or.inl z2))
                  refine Classical.byContradiction (fun z => hRk.2.1 ?_)
                  have ez : arS2 s = (a : Int) := by omega
                  rw [ez] at b2
                  rw [b2.2.2]
                  exact z2) (by rw [f3.1 (a : Int) (by omega) (by omega)])
                have v9 := hai3.ext (A1 := A) (r1 := T) (I1 := (intP A needs needTime needHow needOf lastOf changes changeTime changeHow changeOf)) (fun i z1 z2 => (hT0 _ i z1 z2).symm) (fun s z1 z2 => (hAe s z1 ((hgT _ _).mp z2)).symm) (fun i j z1 z2 z3 z4 => by
                  unfold intP
                  rw [hT0 _ i z1 z2, hT0 _ j z3 z4, hAb i z1 z2, hAb j z3 z4])
                rw [f3.1 (a : Int) (by omega) (by omega)] at hbk
                replace hbk := Cg.deep hbk (show d + 6 + n + 1 ≤ d + 8 + n by omega)
                rw [← f3.1 (a : Int) (by omega) (by omega), f3.1 (a : Int) (by omega) (by omega)] at v9
                have hBa : (if (up1 T (a : Int) (2 * (c - 12) + 1)) a % 2 = 0 then arB2 - 1 else arB2) = m := by
                  have := v9.2.2.1
                  rw [this, ← hai.2.2.1]
                  exact hB
                rcases ihq (c + 1) (a : Int) arF2 arU2 arT2 shN2 shD2 arLU2 arGU2 (if (up1 T (a : Int) (2 * (c - 12) + 1)) a % 2 = 0 then arB2 - 1 else arB2) (fun i => arM2 i ↔ ¬ i = (up1 T (a : Int) (2 * (c - 12) + 1)) a / 2) arR2 arL2 arA2 arS2 leN2 leD2 grN2 grD2 arH2 stF2 stN2 stD2 (by omega) (by omega) (fun z => hmb (by omega)) rfl hBa v9 with ⟨ev', f1, arP1, arF1, arU1, arT1, shN1, shD1, arLU1, arGU1, arB1, arM1, arR1, arL1, arA1, arS1, leN1, leD1, grN1, grD1, arH1, stF1, stN1, stD1, f2, ht⟩ | ⟨f1, arP1, arF1, arU1, arT1, shN1, shD1, arLU1, arGU1, arB1, arM1, arR1, arL1, arA1, arS1, leN1, leD1, grN1, grD1, arH1, stF1, stN1, stD1, f2, f3, ht⟩
                · refine Or.inl ⟨ev', (skip hnn).trans f1, arP1, arF1, arU1, arT1, shN1, shD1, arLU1, arGU1, arB1, arM1, arR1, arL1, arA1, arS1, leN1, leD1, grN1, grD1, arH1, stF1, stN1, stD1, f2, ?_⟩
                  refine Rg.step 55 F_PJ_completes_53 rfl (fun _ => rfl) ?_
                  refine Rg.bip 57 F_PJ_completes_55 rfl rfl ?_
                  refine Rg.step 58 F_PJ_completes_57 rfl (fun _ => rfl) ?_
                  refine Rg.addI 59 F_PJ_completes_58 rfl ?_
                  refine Rg.icgeI 195 62 F_PJ_completes_59 rfl rfl (by omega) (by omega) (fun h59 => by omega) (fun _ => ?_)
                  refine Rg.step 64 F_PJ_completes_62 rfl (fun _ => rfl) ?_
                  refine Rg.bip 66 F_PJ_completes_64 rfl rfl ?_
                  refine Rg.icgeI 73 69 F_PJ_completes_66 rfl rfl (by omega) (by omega) (fun _ => ?_) (fun h66 => by omega)
                  refine Rg.step 74 F_PJ_completes_73 rfl (fun _ => rfl) ?_
                  refine Rg.step 76 F_PJ_completes_74 rfl (fun _ => rfl) ?_
                  refine Rg.step 78 F_PJ_completes_76 rfl (fun _ => rfl) ?_
                  refine Rg.ifeqI 85 81 F_PJ_completes_78 rfl rfl (by omega) (fun _ => ?_) (fun h78 => by omega)
                  refine Rg.step 87 F_PJ_completes_85 rfl (fun _ => rfl) ?_
                  refine Rg.bip 89 F_PJ_completes_87 rfl rfl ?_
                  refine Rg.subI 90 F_PJ_completes_89 rfl ?_
                  refine Rg.step 92 F_PJ_completes_90 rfl (fun _ => rfl) ?_
                  refine Rg.step 94 F_PJ_completes_92 rfl (fun _ => rfl) ?_
                  refine Rg.ifeqI 112 97 F_PJ_completes_94 rfl rfl (by omega) (fun _ => ?_) (fun h94 => by omega)
                  refine Rg.step 113 F_PJ_completes_112 rfl (fun _ => rfl) ?_
                  refine Rg.step 115 F_PJ_completes_113 rfl (fun _ => rfl) ?_
                  refine Rg.call 118 F_PJ_completes_115 rfl (one_V rM_1_278 (by decide) (by simp) rfl rfl gC_49 rfl) (Nat.le_of_ble_eq_true rfl) (Cg.any (c_Ar_isOpen (by omega))) ?_
                  refine Rg.ifeqP 189 121 F_PJ_completes_118 rfl rfl (fun h118 => absurd hact h118) (fun _ => ?_)
                  refine Rg.step 123 F_PJ_completes_121 rfl (fun _ => rfl) ?_
                  refine Rg.ifeqI 133 126 F_PJ_completes_123 rfl rfl (by omega) (fun _ => ?_) (fun h123 => by omega)
                  refine Rg.step 134 F_PJ_completes_133 rfl (fun _ => rfl) ?_
                  refine Rg.step 136 F_PJ_completes_134 rfl (fun _ => rfl) ?_
                  refine Rg.mulI 137 F_PJ_completes_136 rfl ?_
                  refine Rg.step 138 F_PJ_completes_137 rfl (fun _ => rfl) ?_
                  refine Rg.addI 139 F_PJ_completes_138 rfl ?_
                  refine Rg.step 141 F_PJ_completes_139 rfl (fun _ => rfl) ?_
                  refine Rg.step 143 F_PJ_completes_141 rfl (fun _ => rfl) ?_
                  refine Rg.ifeqI 151 146 F_PJ_completes_143 rfl rfl (by omega) (fun _ => ?_) (fun h143 => by omega)
                  refine Rg.step 152 F_PJ_completes_151 rfl (fun _ => rfl) ?_
                  refine Rg.getf 155 F_PJ_completes_152 rfl rF_1_281 gC_49 rfl ?_
                  refine Rg.step 157 F_PJ_completes_155 rfl (fun _ => rfl) ?_
                  refine Rg.ild 158 F_PJ_completes_157 rfl gC_54 (by omega) (by decide) ?_
                  rw [eAr]
                  refine Rg.step 160 F_PJ_completes_158 rfl (fun _ => rfl) ?_
                  refine Rg.step 161 F_PJ_completes_160 rfl (fun _ => rfl) ?_
                  refine Rg.step 162 F_PJ_completes_161 rfl (fun _ => rfl) ?_
                  refine Rg.step 164 F_PJ_completes_162 rfl (fun _ => rfl) ?_
                  refine Rg.step 166 F_PJ_completes_164 rfl (fun _ => rfl) ?_
                  refine Rg.call 169 F_PJ_completes_166 rfl (one_V rM_1_282 (by decide) (by simp) rfl rfl gC_49 rfl) (Nat.le_of_ble_eq_true rfl) hc1 ?_
                  refine Rg.ifneI 189 172 F_PJ_completes_169 rfl rfl (by omega) (fun h169 => by omega) (fun _ => ?_)
                  refine Rg.step 173 F_PJ_completes_172 rfl (fun _ => rfl) ?_
                  refine Rg.step 174 F_PJ_completes_173 rfl (fun _ => rfl) ?_
                  refine Rg.step 175 F_PJ_completes_174 rfl (fun _ => rfl) ?_
                  refine Rg.step 176 F_PJ_completes_175 rfl (fun _ => rfl) ?_
                  refine Rg.subI 177 F_PJ_completes_176 rfl ?_
                  rw [show (n : Int) + 1 - 1 = (n : Int) by omega]
                  refine Rg.call 180 F_PJ_completes_177 rfl (one_S (by decide +kernel) rM_1_222 (by decide) (by simp) rfl rfl) (Nat.le_of_ble_eq_true rfl) hc2 ?_
                  refine Rg.ifeqP 185 183 F_PJ_completes_180 rfl rfl (fun _ => ?_) (fun h180 => absurd h180 (fun z => z))
                  refine Rg.step 186 F_PJ_completes_185 rfl (fun _ => rfl) ?_
                  refine Rg.call 189 F_PJ_completes_186 rfl (one_V rM_1_286 (by decide) (by simp) rfl rfl gC_49 rfl) (Nat.le_of_ble_eq_true rfl) hbk ?_
                  refine Rg.inc 192 F_PJ_completes_189 rfl rfl (by decide) ?_
                  refine Rg.step 53 F_PJ_completes_192 rfl (fun _ => rfl) ?_
                  exact Rg.weak ht (by simp [lput1, lput2, Value.category, fi0, fi1, fi2, fi3] <;> first | rfl | exact ⟨rfl, rfl⟩) (by simp [lput1, lput2, Value.category, fi0, fi1, fi2, fi3] <;> first | rfl | exact ⟨rfl, rfl⟩)
                · refine Or.inr ⟨(skip hnn).trans f1, arP1, arF1, arU1, arT1, shN1, shD1, arLU1, arGU1, arB1, arM1, arR1, arL1, arA1, arS1, leN1, leD1, grN1, grD1, arH1, stF1, stN1, stD1, f2, f3, ?_⟩
                  refine Rg.step 55 F_PJ_completes_53 rfl (fun _ => rfl) ?_
                  refine Rg.bip 57 F_PJ_completes_55 rfl rfl ?_
                  refine Rg.step 58 F_PJ_completes_57 rfl (fun _ => rfl) ?_
                  refine Rg.addI 59 F_PJ_completes_58 rfl ?_
                  refine Rg.icgeI 195 62 F_PJ_completes_59 rfl rfl (by omega) (by omega) (fun h59 => by omega) (fun _ => ?_)
                  refine Rg.step 64 F_PJ_completes_62 rfl (fun _ => rfl) ?_
                  refine Rg.bip 66 F_PJ_completes_64 rfl rfl ?_
                  refine Rg.icgeI 73 69 F_PJ_completes_66 rfl rfl (by omega) (by omega) (fun _ => ?_) (fun h66 => by omega)
                  refine Rg.step 74 F_PJ_completes_73 rfl (fun _ => rfl) ?_
                  refine Rg.step 76 F_PJ_completes_74 rfl (fun _ => rfl) ?_
                  refine Rg.step 78 F_PJ_completes_76 rfl (fun _ => rfl) ?_
                  refine Rg.ifeqI 85 81 F_PJ_completes_78 rfl rfl (by omega) (fun _ => ?_) (fun h78 => by omega)
                  refine Rg.step 87 F_PJ_completes_85 rfl (fun _ => rfl) ?_
                  refine Rg.bip 89 F_PJ_completes_87 rfl rfl ?_
                  refine Rg.subI 90 F_PJ_completes_89 rfl ?_
                  refine Rg.step 92 F_PJ_completes_90 rfl (fun _ => rfl) ?_
                  refine Rg.step 94 F_PJ_completes_92 rfl (fun _ => rfl) ?_
                  refine Rg.ifeqI 112 97 F_PJ_completes_94 rfl rfl (by omega) (fun _ => ?_) (fun h94 => by omega)
                  refine Rg.step 113 F_PJ_completes_112 rfl (fun _ => rfl) ?_
                  refine Rg.step 115 F_PJ_completes_113 rfl (fun _ => rfl) ?_
                  refine Rg.call 118 F_PJ_completes_115 rfl (one_V rM_1_278 (by decide) (by simp) rfl rfl gC_49 rfl) (Nat.le_of_ble_eq_true rfl) (Cg.any (c_Ar_isOpen (by omega))) ?_
                  refine Rg.ifeqP 189 121 F_PJ_completes_118 rfl rfl (fun h118 => absurd hact h118) (fun _ => ?_)
                  refine Rg.step 123 F_PJ_completes_121 rfl (fun _ => rfl) ?_
                  refine Rg.ifeqI 133 126 F_PJ_completes_123 rfl rfl (by omega) (fun _ => ?_) (fun h123 => by omega)
                  refine Rg.step 134 F_PJ_completes_133 rfl (fun _ => rfl) ?_
                  refine Rg.step 136 F_PJ_completes_134 rfl (fun _ => rfl) ?_
                  refine Rg.mulI 137 F_PJ_completes_136 rfl ?_
                  refine Rg.step 138 F_PJ_completes_137 rfl (fun _ => rfl) ?_
                  refine Rg.addI 139 F_PJ_completes_138 rfl ?_
                  refine Rg.step 141 F_PJ_completes_139 rfl (fun _ => rfl) ?_
                  refine Rg.step 143 F_PJ_completes_141 rfl (fun _ => rfl) ?_
                  refine Rg.ifeqI 151 146 F_PJ_completes_143 rfl rfl (by omega) (fun _ => ?_) (fun h143 => by omega)
                  refine Rg.step 152 F_PJ_completes_151 rfl (fun _ => rfl) ?_
                  refine Rg.getf 155 F_PJ_completes_152 rfl rF_1_281 gC_49 rfl ?_
                  refine Rg.step 157 F_PJ_completes_155 rfl (fun _ => rfl) ?_
                  refine Rg.ild 158 F_PJ_completes_157 rfl gC_54 (by omega) (by decide) ?_
                  rw [eAr]
                  refine Rg.step 160 F_PJ_completes_158 rfl (fun _ => rfl) ?_
                  refine Rg.step 161 F_PJ_completes_160 rfl (fun _ => rfl) ?_
                  refine Rg.step 162 F_PJ_completes_161 rfl (fun _ => rfl) ?_
                  refine Rg.step 164 F_PJ_completes_162 rfl (fun _ => rfl) ?_
                  refine Rg.step 166 F_PJ_completes_164 rfl (fun _ => rfl) ?_
                  refine Rg.call 169 F_PJ_completes_166 rfl (one_V rM_1_282 (by decide) (by simp) rfl rfl gC_49 rfl) (Nat.le_of_ble_eq_true rfl) hc1 ?_
                  refine Rg.ifneI 189 172 F_PJ_completes_169 rfl rfl (by omega) (fun h169 => by omega) (fun _ => ?_)
                  refine Rg.step 173 F_PJ_completes_172 rfl (fun _ => rfl) ?_
                  refine Rg.step 174 F_PJ_completes_173 rfl (fun _ => rfl) ?_
                  refine Rg.step 175 F_PJ_completes_174 rfl (fun _ => rfl) ?_
                  refine Rg.step 176 F_PJ_completes_175 rfl (fun _ => rfl) ?_
                  refine Rg.subI 177 F_PJ_completes_176 rfl ?_
                  rw [show (n : Int) + 1 - 1 = (n : Int) by omega]
                  refine Rg.call 180 F_PJ_completes_177 rfl (one_S (by decide +kernel) rM_1_222 (by decide) (by simp) rfl rfl) (Nat.le_of_ble_eq_true rfl) hc2 ?_
                  refine Rg.ifeqP 185 183 F_PJ_completes_180 rfl rfl (fun _ => ?_) (fun h180 => absurd h180 (fun z => z))
                  refine Rg.step 186 F_PJ_completes_185 rfl (fun _ => rfl) ?_
                  refine Rg.call 189 F_PJ_completes_186 rfl (one_V rM_1_286 (by decide) (by simp) rfl rfl gC_49 rfl) (Nat.le_of_ble_eq_true rfl) hbk ?_
                  refine Rg.inc 192 F_PJ_completes_189 rfl rfl (by decide) ?_
                  refine Rg.step 53 F_PJ_completes_192 rfl (fun _ => rfl) ?_
                  exact Rg.weak ht (by simp [lput1, lput2, Value.category, fi0, fi1, fi2, fi3] <;> first | rfl | exact ⟨rfl, rfl⟩) (by simp [lput1, lput2, Value.category, fi0, fi1, fi2, fi3] <;> first | rfl | exact ⟨rfl, rfl⟩)
          · have hnn : (fun c => findE (GoodE actions (fun S a t => fit needs needTime needOf needHow needN needD S.1 S.2.1 S.2.2 a t) (fun S a t => chAll changeTime changeOf changeHow changeN changeD t (changes a).toNat (6 * a) S) (fun S a => (lbN lastOf lastN lastD epsilonN epsilonD S.2.1 S.2.2 a, lbD lastOf lastN lastD epsilonN epsilonD S.2.1 S.2.2 a, gbN lastOf lastN lastD S.2.1 S.2.2 a, gbD lastOf lastN lastD S.2.1 S.2.2 a)) (fun S => goal wishes wants wantN wantD S.1 S.2.1 S.2.2) (fun a t b u => interf needs needTime needHow needOf lastOf changes changeTime changeHow changeOf a t b u) epsilonN epsilonD (fiF, fiN, fiD) many) n ((a : Int) + 1) (up1 ev (a : Int) c)) c = none := hinv c (by
            rw [evS_s, up1_eq, if_neg (by omega), if_neg (fun z => hact ((hai.2.2.2.1 (c - 12) (by omega) (by omega)).mpr ⟨hst (c - 12) (by omega) hsm, fun ⟨i, y1, y2, y3⟩ => z.2 i y1 y2 y3⟩))])
            rcases ihq (c + 1) (a : Int) arF0 arU0 arT0 shN0 shD0 arLU0 arGU0 arB0 arM0 arR0 arL0 arA0 arS0 leN0 leD0 grN0 grD0 arH0 stF0 stN0 stD0 (by omega) (by omega) (fun z => hmb (by omega)) rfl hB hai with ⟨ev', f1, arP1, arF1, arU1, arT1, shN1, shD1, arLU1, arGU1, arB1, arM1, arR1, arL1, arA1, arS1, leN1, leD1, grN1, grD1, arH1, stF1, stN1, stD1, f2, ht⟩ | ⟨f1, arP1, arF1, arU1, arT1, shN1, shD1, arLU1, arGU1, arB1, arM1, arR1, arL1, arA1, arS1, leN1, leD1, grN1, grD1, arH1, stF1, stN1, stD1, f2, f3, ht⟩
            · refine Or.inl ⟨ev', (skip hnn).trans f1, arP1, arF1, arU1, arT1, shN1, shD1, arLU1, arGU1, arB1, arM1, arR1, arL1, arA1, arS1, leN1, leD1, grN1, grD1, arH1, stF1, stN1, stD1, f2, ?_⟩
              refine Rg.step 55 F_PJ_completes_53 rfl (fun _ => rfl) ?_
              refine Rg.bip 57 F_PJ_completes_55 rfl rfl ?_
              refine Rg.step 58 F_PJ_completes_57 rfl (fun _ => rfl) ?_
              refine Rg.addI 59 F_PJ_completes_58 rfl ?_
              refine Rg.icgeI 195 62 F_PJ_completes_59 rfl rfl (by omega) (by omega) (fun h59 => by omega) (fun _ => ?_)
              refine Rg.step 64 F_PJ_completes_62 rfl (fun _ => rfl) ?_
              refine Rg.bip 66 F_PJ_completes_64 rfl rfl ?_
              refine Rg.icgeI 73 69 F_PJ_completes_66 rfl rfl (by omega) (by omega) (fun _ => ?_) (fun h66 => by omega)
              refine Rg.step 74 F_PJ_completes_73 rfl (fun _ => rfl) ?_
              refine Rg.step 76 F_PJ_completes_74 rfl (fun _ => rfl) ?_
              refine Rg.step 78 F_PJ_completes_76 rfl (fun _ => rfl) ?_
              refine Rg.ifeqI 85 81 F_PJ_completes_78 rfl rfl (by omega) (fun _ => ?_) (fun h78 => by omega)
              refine Rg.step 87 F_PJ_completes_85 rfl (fun _ => rfl) ?_
              refine Rg.bip 89 F_PJ_completes_87 rfl rfl ?_
              refine Rg.subI 90 F_PJ_completes_89 rfl ?_
              refine Rg.step 92 F_PJ_completes_90 rfl (fun _ => rfl) ?_
              refine Rg.step 94 F_PJ_completes_92 rfl (fun _ => rfl) ?_
              refine Rg.ifeqI 112 97 F_PJ_completes_94 rfl rfl (by omega) (fun _ => ?_) (fun h94 => by omega)
              refine Rg.step 113 F_PJ_completes_112 rfl (fun _ => rfl) ?_
              refine Rg.step 115 F_PJ_completes_113 rfl (fun _ => rfl) ?_
              refine Rg.call 118 F_PJ_completes_115 rfl (one_V rM_1_278 (by decide) (by simp) rfl rfl gC_49 rfl) (Nat.le_of_ble_eq_true rfl) (Cg.any (c_Ar_isOpen (by omega))) ?_
              refine Rg.ifeqP 189 121 F_PJ_completes_118 rfl rfl (fun _ => ?_) (fun h118 => absurd h118 hact)
              refine Rg.inc 192 F_PJ_completes_189 rfl rfl (by decide) ?_
              refine Rg.step 53 F_PJ_completes_192 rfl (fun _ => rfl) ?_
              exact Rg.weak ht (by simp [lput1, lput2, Value.category, fi0, fi1, fi2, fi3] <;> first | rfl | exact ⟨rfl, rfl⟩) (by simp [lput1, lput2, Value.category, fi0, fi1, fi2, fi3] <;> first | rfl | exact ⟨rfl, rfl⟩)
            · refine Or.inr ⟨(skip hnn).trans f1, arP1, arF1, arU1, arT1, shN1, shD1, arLU1, arGU1, arB1, arM1, arR1, arL1, arA1, arS1, leN1, leD1, grN1, grD1, arH1, stF1, stN1, stD1, f2, f3, ?_⟩
              refine Rg.step 55 F_PJ_completes_53 rfl (fun _ => rfl) ?_
              refine Rg.bip 57 F_PJ_completes_55 rfl rfl ?_
              refine Rg.step 58 F_PJ_completes_57 rfl (fun _ => rfl) ?_
              refine Rg.addI 59 F_PJ_completes_58 rfl ?_
              refine Rg.icgeI 195 62 F_PJ_completes_59 rfl rfl (by omega) (by omega) (fun h59 => by omega) (fun _ => ?_)
              refine Rg.step 64 F_PJ_completes_62 rfl (fun _ => rfl) ?_
              refine Rg.bip 66 F_PJ_completes_64 rfl rfl ?_
              refine Rg.icgeI 73 69 F_PJ_completes_66 rfl rfl (by omega) (by omega) (fun _ => ?_) (fun h66 => by omega)
              refine Rg.step 74 F_PJ_completes_73 rfl (fun _ => rfl) ?_
              refine Rg.step 76 F_PJ_completes_74 rfl (fun _ => rfl) ?_
              refine Rg.step 78 F_PJ_completes_76 rfl (fun _ => rfl) ?_
              refine Rg.ifeqI 85 81 F_PJ_completes_78 rfl rfl (by omega) (fun _ => ?_) (fun h78 => by omega)
              refine Rg.step 87 F_PJ_completes_85 rfl (fun _ => rfl) ?_
              refine Rg.bip 89 F_PJ_completes_87 rfl rfl ?_
              refine Rg.subI 90 F_PJ_completes_89 rfl ?_
              refine Rg.step 92 F_PJ_completes_90 rfl (fun _ => rfl) ?_
              refine Rg.step 94 F_PJ_completes_92 rfl (fun _ => rfl) ?_
              refine Rg.ifeqI 112 97 F_PJ_completes_94 rfl rfl (by omega) (fun _ => ?_) (fun h94 => by omega)
              refine Rg.step 113 F_PJ_completes_112 rfl (fun _ => rfl) ?_
              refine Rg.step 115 F_PJ_completes_113 rfl (fun _ => rfl) ?_
              refine Rg.call 118 F_PJ_completes_115 rfl (one_V rM_1_278 (by decide) (by simp) rfl rfl gC_49 rfl) (Nat.le_of_ble_eq_true rfl) (Cg.any (c_Ar_isOpen (by omega))) ?_
              refine Rg.ifeqP 189 121 F_PJ_completes_118 rfl rfl (fun _ => ?_) (fun h118 => absurd h118 hact)
              refine Rg.inc 192 F_PJ_completes_189 rfl rfl (by decide) ?_
              refine Rg.step 53 F_PJ_completes_192 rfl (fun _ => rfl) ?_
              exact Rg.weak ht (by simp [lput1, lput2, Value.category, fi0, fi1, fi2, fi3] <;> first | rfl | exact ⟨rfl, rfl⟩) (by simp [lput1, lput2, Value.category, fi0, fi1, fi2, fi3] <;> first | rfl | exact ⟨rfl, rfl⟩)
    by_cases hmb : 2 * m - a + 2 ≤ (n : Int) + 1
    · skip
      rcases key (MC s0 s1 handN handD gT gF alE actions alM fiF fiN fiD epN epD goH goN goD plS plP plM plA plBN plBD plLN plLD plR veW veF veP vsF vsN vsD juM juP juTN juTD juO scN scD noF noN noD neF neN neD (a : Int) arB0 arM0 arU0 arF0 arR0 arL0 arT0 arA0 arS0 leN0 leD0 grN0 grD0 arH0 arLU0 arGU0 shN0 shD0 stF0 stN0 stD0 rest).length (12 + m).toNat 0 (a : Int) arF0 arU0 arT0 shN0 shD0 arLU0 arGU0 arB0 arM0 arR0 arL0 arA0 arS0 leN0 leD0 grN0 grD0 arH0 stF0 stN0 stD0 (by omega) (by omega) (fun _ => by omega) rfl hB hai with ⟨ev', f1, arP1, arF1, arU1, arT1, shN1, shD1, arLU1, arGU1, arB1, arM1, arR1, arL1, arA1, arS1, leN1, leD1, grN1, grD1, arH1, stF1, stN1, stD1, f2, ht⟩ | ⟨f1, arP1, arF1, arU1, arT1, shN1, shD1, arLU1, arGU1, arB1, arM1, arR1, arL1, arA1, arS1, leN1, leD1, grN1, grD1, arH1, stF1, stN1, stD1, f2, f3, ht⟩
      · refine Or.inl ⟨ev', f1, arP1, arF1, arU1, arT1, shN1, shD1, arLU1, arGU1, arB1, arM1, arR1, arL1, arA1, arS1, leN1, leD1, grN1, grD1, arH1, stF1, stN1, stD1, f2, ?_⟩
        rw [hns]
        rw [hB] at ht
        refine Cg.of (Nat.le_of_ble_eq_true rfl) ?_
        change Rg _ _ _ _ 0 [(0, .ref 6), (1, .ref 49), (2, .int (iI _))] [] _ _ _
        refine Rg.step 1 F_PJ_completes_0 rfl (fun _ => rfl) ?_
        refine Rg.ifgtI 18 4 F_PJ_completes_1 rfl rfl (by omega) (fun _ => ?_) (fun h1 => by omega)
        refine Rg.step 19 F_PJ_completes_18 rfl (fun _ => rfl) ?_
        refine Rg.getf 22 F_PJ_completes_19 rfl rF_1_272 gC_49 rfl ?_
        rw [hB]
        refine Rg.step 23 F_PJ_completes_22 rfl (fun _ => rfl) ?_
        refine Rg.step 24 F_PJ_completes_23 rfl (fun _ => rfl) ?_
        refine Rg.call 27 F_PJ_completes_24 rfl (one_V rM_1_275 (by decide) (by simp) rfl rfl gC_49 rfl) (Nat.le_of_ble_eq_true rfl) (Cg.any c_Ar_openSteps) ?_
        refine Rg.step 28 F_PJ_completes_27 rfl (fun _ => rfl) ?_
        refine Rg.addI 29 F_PJ_completes_28 rfl ?_
        refine Rg.step 30 F_PJ_completes_29 rfl (fun _ => rfl) ?_
        refine Rg.icgtI 37 33 F_PJ_completes_30 rfl rfl (by omega) (by omega) (fun h30 => by omega) (fun _ => ?_)
        refine Rg.step 34 F_PJ_completes_33 rfl (fun _ => rfl) ?_
        refine Rg.step 38 F_PJ_completes_34 rfl (fun _ => rfl) ?_
        refine Rg.step 40 F_PJ_completes_38 rfl (fun _ => rfl) ?_
        refine Rg.step 42 F_PJ_completes_40 rfl (fun _ => rfl) ?_
        refine Rg.ifeqI 49 45 F_PJ_completes_42 rfl rfl (by omega) (fun h42 => by omega) (fun _ => ?_)
        refine Rg.step 46 F_PJ_completes_45 rfl (fun _ => rfl) ?_
        refine Rg.step 51 F_PJ_completes_46 rfl (fun _ => rfl) ?_
        refine Rg.step 53 F_PJ_completes_51 rfl (fun _ => rfl) ?_
        exact Rg.weak ht (by simp [lput1, lput2, Value.category, fi0, fi1, fi2, fi3] <;> first | rfl | exact ⟨rfl, rfl⟩) (by simp [lput1, lput2, Value.category, fi0, fi1, fi2, fi3] <;> first | rfl | exact ⟨rfl, rfl⟩)
      · refine Or.inr ⟨f1, arP1, arF1, arU1, arT1, shN1, shD1, arLU1, arGU1, arB1, arM1, arR1, arL1, arA1, arS1, leN1, leD1, grN1, grD1, arH1, stF1, stN1, stD1, f2, f3, ?_⟩
        rw [hns]
        rw [hB] at ht
        refine Cg.of (Nat.le_of_ble_eq_true rfl) ?_
        change Rg _ _ _ _ 0 [(0, .ref 6), (1, .ref 49), (2, .int (iI _))] [] _ _ _
        refine Rg.step 1 F_PJ_completes_0 rfl (fun _ => rfl) ?_
        refine Rg.ifgtI 18 4 F_PJ_completes_1 rfl rfl (by omega) (fun _ => ?_) (fun h1 => by omega)
        refine Rg.step 19 F_PJ_completes_18 rfl (fun _ => rfl) ?_
        refine Rg.getf 22 F_PJ_completes_19 rfl rF_1_272 gC_49 rfl ?_
        rw [hB]
        refine Rg.step 23 F_PJ_completes_22 rfl (fun _ => rfl) ?_
        refine Rg.step 24 F_PJ_completes_23 rfl (fun _ => rfl) ?_
        refine Rg.call 27 F_PJ_completes_24 rfl (one_V rM_1_275 (by decide) (by simp) rfl rfl gC_49 rfl) (Nat.le_of_ble_eq_true rfl) (Cg.any c_Ar_openSteps) ?_
        refine Rg.step 28 F_PJ_completes_27 rfl (fun _ => rfl) ?_
        refine Rg.addI 29 F_PJ_completes_28 rfl ?_
        refine Rg.step 30 F_PJ_completes_29 rfl (fun _ => rfl) ?_
        refine Rg.icgtI 37 33 F_PJ_completes_30 rfl rfl (by omega) (by omega) (fun h30 => by omega) (fun _ => ?_)
        refine Rg.step 34 F_PJ_completes_33 rfl (fun _ => rfl) ?_
        refine Rg.step 38 F_PJ_completes_34 rfl (fun _ => rfl) ?_
        refine Rg.step 40 F_PJ_completes_38 rfl (fun _ => rfl) ?_
        refine Rg.step 42 F_PJ_completes_40 rfl (fun _ => rfl) ?_
        refine Rg.ifeqI 49 45 F_PJ_completes_42 rfl rfl (by omega) (fun h42 => by omega) (fun _ => ?_)
        refine Rg.step 46 F_PJ_completes_45 rfl (fun _ => rfl) ?_
        refine Rg.step 51 F_PJ_completes_46 rfl (fun _ => rfl) ?_
        refine Rg.step 53 F_PJ_completes_51 rfl (fun _ => rfl) ?_
        exact Rg.weak ht (by simp [lput1, lput2, Value.category, fi0, fi1, fi2, fi3] <;> first | rfl | exact ⟨rfl, rfl⟩) (by simp [lput1, lput2, Value.category, fi0, fi1, fi2, fi3] <;> first | rfl | exact ⟨rfl, rfl⟩)
    · have hsk : fstC (fun c => findE (GoodE actions (fun S a t => fit needs needTime needOf needHow needN needD S.1 S.2.1 S.2.2 a t) (fun S a t => chAll changeTime changeOf changeHow changeN changeD t (changes a).toNat (6 * a) S) (fun S a => (lbN lastOf lastN lastD epsilonN epsilonD S.2.1 S.2.2 a, lbD lastOf lastN lastD epsilonN epsilonD S.2.1 S.2.2 a, gbN lastOf lastN lastD S.2.1 S.2.2 a, gbD lastOf lastN lastD S.2.1 S.2.2 a)) (fun S => goal wishes wants wantN wantD S.1 S.2.1 S.2.2) (fun a t b u => interf needs needTime needHow needOf lastOf changes changeTime changeHow changeOf a t b u) epsilonN epsilonD (fiF, fiN, fiD) many) n ((a : Int) + 1) (up1 ev (a : Int) c)) 15 0 = fstC (fun c => findE (GoodE actions (fun S a t => fit needs needTime needOf needHow needN needD S.1 S.2.1 S.2.2 a t) (fun S a t => chAll changeTime changeOf changeHow changeN changeD t (changes a).toNat (6 * a) S) (fun S a => (lbN lastOf lastN lastD epsilonN epsilonD S.2.1 S.2.2 a, lbD lastOf lastN lastD epsilonN epsilonD S.2.1 S.2.2 a, gbN lastOf lastN lastD S.2.1 S.2.2 a, gbD lastOf lastN lastD S.2.1 S.2.2 a)) (fun S => goal wishes wants wantN wantD S.1 S.2.1 S.2.2) (fun a t b u => interf needs needTime needHow needOf lastOf changes changeTime changeHow changeOf a t b u) epsilonN epsilonD (fiF, fiN, fiD) many) n ((a : Int) + 1) (up1 ev (a : Int) c)) ((15 : Int) - 12).toNat 12 := fstC_skip 12 3 0 (fun i z1 z2 => by
        by_cases hact : i < actions
        · refine findE_none n _ _ (fun ev1 y1 y2 => ?_)
          rw [show many = (a + 1) + n by omega]
          exact good_open ((hev1 i).trans (hbeg i (by omega) hact)) (fun j x1 x2 => y1 j (by omega)) (by omega)
        · exact hinv i (by rw [evS_s, up1_eq, if_pos (by omega), if_neg hact]))
      rcases key (MC s0 s1 handN handD gT gF alE actions alM fiF fiN fiD epN epD goH goN goD plS plP plM plA plBN plBD plLN plLD plR veW veF veP vsF vsN vsD juM juP juTN juTD juO scN scD noF noN noD neF neN neD (a : Int) arB0 arM0 arU0 arF0 arR0 arL0 arT0 arA0 arS0 leN0 leD0 grN0 grD0 arH0 arLU0 arGU0 shN0 shD0 stF0 stN0 stD0 rest).length m.toNat 12 (a : Int) arF0 arU0 arT0 shN0 shD0 arLU0 arGU0 arB0 arM0 arR0 arL0 arA0 arS0 leN0 leD0 grN0 grD0 arH0 stF0 stN0 stD0 (by omega) (by omega) (fun _ => by omega) rfl hB hai with ⟨ev', f1, arP1, arF1, arU1, arT1, shN1, shD1, arLU1, arGU1, arB1, arM1, arR1, arL1, arA1, arS1, leN1, leD1, grN1, grD1, arH1, stF1, stN1, stD1, f2, ht⟩ | ⟨f1, arP1, arF1, arU1, arT1, shN1, shD1, arLU1, arGU1, arB1, arM1, arR1, arL1, arA1, arS1, leN1, leD1, grN1, grD1, arH1, stF1, stN1, stD1, f2, f3, ht⟩
      · refine Or.inl ⟨ev', hsk.trans f1, arP1, arF1, arU1, arT1, shN1, shD1, arLU1, arGU1, arB1, arM1, arR1, arL1, arA1, arS1, leN1, leD1, grN1, grD1, arH1, stF1, stN1, stD1, f2, ?_⟩
        rw [hns]
        rw [hB] at ht
        refine Cg.of (Nat.le_of_ble_eq_true rfl) ?_
        change Rg _ _ _ _ 0 [(0, .ref 6), (1, .ref 49), (2, .int (iI _))] [] _ _ _
        refine Rg.step 1 F_PJ_completes_0 rfl (fun _ => rfl) ?_
        refine Rg.ifgtI 18 4 F_PJ_completes_1 rfl rfl (by omega) (fun _ => ?_) (fun h1 => by omega)
        refine Rg.step 19 F_PJ_completes_18 rfl (fun _ => rfl) ?_
        refine Rg.getf 22 F_PJ_completes_19 rfl rF_1_272 gC_49 rfl ?_
        rw [hB]
        refine Rg.step 23 F_PJ_completes_22 rfl (fun _ => rfl) ?_
        refine Rg.step 24 F_PJ_completes_23 rfl (fun _ => rfl) ?_
        refine Rg.call 27 F_PJ_completes_24 rfl (one_V rM_1_275 (by decide) (by simp) rfl rfl gC_49 rfl) (Nat.le_of_ble_eq_true rfl) (Cg.any c_Ar_openSteps) ?_
        refine Rg.step 28 F_PJ_completes_27 rfl (fun _ => rfl) ?_
        refine Rg.addI 29 F_PJ_completes_28 rfl ?_
        refine Rg.step 30 F_PJ_completes_29 rfl (fun _ => rfl) ?_
        refine Rg.icgtI 37 33 F_PJ_completes_30 rfl rfl (by omega) (by omega) (fun _ => ?_) (fun h30 => by omega)
        refine Rg.step 38 F_PJ_completes_37 rfl (fun _ => rfl) ?_
        refine Rg.step 40 F_PJ_completes_38 rfl (fun _ => rfl) ?_
        refine Rg.step 42 F_PJ_completes_40 rfl (fun _ => rfl) ?_
        refine Rg.ifeqI 49 45 F_PJ_completes_42 rfl rfl (by omega) (fun _ => ?_) (fun h42 => by omega)
        refine Rg.bip 51 F_PJ_completes_49 rfl rfl ?_
        refine Rg.step 53 F_PJ_completes_51 rfl (fun _ => rfl) ?_
        exact Rg.weak ht (by simp [lput1, lput2, Value.category, fi0, fi1, fi2, fi3] <;> first | rfl | exact ⟨rfl, rfl⟩) (by simp [lput1, lput2, Value.category, fi0, fi1, fi2, fi3] <;> first | rfl | exact ⟨rfl, rfl⟩)
      · refine Or.inr ⟨hsk.trans f1, arP1, arF1, arU1, arT1, shN1, shD1, arLU1, arGU1, arB1, arM1, arR1, arL1, arA1, arS1, leN1, leD1, grN1, grD1, arH1, stF1, stN1, stD1, f2, f3, ?_⟩
        rw [hns]
        rw [hB] at ht
        refine Cg.of (Nat.le_of_ble_eq_true rfl) ?_
        change Rg _ _ _ _ 0 [(0, .ref 6), (1, .ref 49), (2, .int (iI _))] [] _ _ _
        refine Rg.step 1 F_PJ_completes_0 rfl (fun _ => rfl) ?_
        refine Rg.ifgtI 18 4 F_PJ_completes_1 rfl rfl (by omega) (fun _ => ?_) (fun h1 => by omega)
        refine Rg.step 19 F_PJ_completes_18 rfl (fun _ => rfl) ?_
        refine Rg.getf 22 F_PJ_completes_19 rfl rF_1_272 gC_49 rfl ?_
        rw [hB]
        refine Rg.step 23 F_PJ_completes_22 rfl (fun _ => rfl) ?_
        refine Rg.step 24 F_PJ_completes_23 rfl (fun _ => rfl) ?_
        refine Rg.call 27 F_PJ_completes_24 rfl (one_V rM_1_275 (by decide) (by simp) rfl rfl gC_49 rfl) (Nat.le_of_ble_eq_true rfl) (Cg.any c_Ar_openSteps) ?_
        refine Rg.step 28 F_PJ_completes_27 rfl (fun _ => rfl) ?_
        refine Rg.addI 29 F_PJ_completes_28 rfl ?_
        refine Rg.step 30 F_PJ_completes_29 rfl (fun _ => rfl) ?_
        refine Rg.icgtI 37 33 F_PJ_completes_30 rfl rfl (by omega) (by omega) (fun _ => ?_) (fun h30 => by omega)
        refine Rg.step 38 F_PJ_completes_37 rfl (fun _ => rfl) ?_
        refine Rg.step 40 F_PJ_completes_38 rfl (fun _ => rfl) ?_
        refine Rg.step 42 F_PJ_completes_40 rfl (fun _ => rfl) ?_
        refine Rg.ifeqI 49 45 F_PJ_completes_42 rfl rfl (by omega) (fun _ => ?_) (fun h42 => by omega)
        refine Rg.bip 51 F_PJ_completes_49 rfl rfl ?_
        refine Rg.step 53 F_PJ_completes_51 rfl (fun _ => rfl) ?_
        exact Rg.weak ht (by simp [lput1, lput2, Value.category, fi0, fi1, fi2, fi3] <;> first | rfl | exact ⟨rfl, rfl⟩) (by simp [lput1, lput2, Value.category, fi0, fi1, fi2, fi3] <;> first | rfl | exact ⟨rfl, rfl⟩)
end R81
