/-! The reference: seeking. Rows of events, and that the same row is arranged the same way. -/
abbrev EvT : Type := Int × Int × (Int → Int) × (Int → Int)
/-- events in turn: how many steps, how many points, their actions, their points -/
noncomputable def evS (acts : Int) (ev : Int → Int) : Nat → Int → EvT → Option EvT
  | 0, _, st => some st
  | n + 1, k, st => if ev k < 12 then (if ev k < acts then evS acts ev n (k + 1) (st.1 + 1, st.2.1 + 1, up1 st.2.2.1 st.1 (ev k), up1 st.2.2.2 st.2.1 (2 * st.1)) else none)
      else @ite _ (ev k - 12 < st.1 ∧ ∀ i, 0 ≤ i → i < st.2.1 → ¬ st.2.2.2 i = 2 * (ev k - 12) + 1) (Classical.propDecidable _) (evS acts ev n (k + 1) (st.1, st.2.1 + 1, st.2.2.1, up1 st.2.2.2 st.2.1 (2 * (ev k - 12) + 1))) none
/-- what holds of such a row -/
def EvW (acts : Int) (k : Int) (st : EvT) : Prop := (0 ≤ st.1 ∧ st.1 ≤ k) ∧ st.2.1 = k ∧ (∀ s, 0 ≤ s → s < st.1 → 0 ≤ st.2.2.1 s ∧ st.2.2.1 s < acts) ∧ (∀ i, 0 ≤ i → i < st.2.1 → 0 ≤ st.2.2.2 i ∧ st.2.2.2 i < 2 * st.1) ∧ (∀ i j, 0 ≤ i → i < j → j < st.2.1 → ¬ st.2.2.2 i = st.2.2.2 j)
theorem EvW0 (acts : Int) (A T : Int → Int) : EvW acts 0 (0, 0, A, T) := ⟨⟨Int.le_refl _, Int.le_refl _⟩, rfl, fun s z1 z2 => absurd z2 (by show ¬ s < 0; omega), fun s z1 z2 => absurd z2 (by show ¬ s < 0; omega), fun i j z1 z2 z3 => absurd z3 (by show ¬ j < 0; omega)⟩
theorem EvW.beg {acts k m R e : Int} {A T : Int → Int} (h : EvW acts k (m, R, A, T)) (he : 0 ≤ e ∧ e < acts) : EvW acts (k + 1) (m + 1, R + 1, up1 A m e, up1 T R (2 * m)) := by
  obtain ⟨h1, h2, h3, h4, h5⟩ := h
  dsimp only at h1 h2 h3 h4 h5
  refine ⟨⟨by dsimp only; omega, by dsimp only; omega⟩, by dsimp only; omega, fun s z1 z2 => ?_, fun i z1 z2 => ?_, fun i j z1 z2 z3 => ?_⟩
  · dsimp only at z2 ⊢
    by_cases hs : s = m
    · rw [hs, up1_eq]; exact he
    · rw [up1_ne _ _ hs]; exact h3 s z1 (by omega)
  · dsimp only at z2 ⊢
    by_cases hs : i = R
    · rw [hs, up1_eq]; omega
    · rw [up1_ne _ _ hs]
      have := h4 i z1 (by omega)
      omega
  · dsimp only at z3 ⊢
    have hi : ¬ i = R := by omega
    rw [up1_ne _ _ hi]
    by_cases hs : j = R
    · rw [hs, up1_eq]
      have := h4 i z1 (by omega)
      omega
    · rw [up1_ne _ _ hs]; exact h5 i j z1 z2 (by omega)
theorem EvW.fin {acts k m R s : Int} {A T : Int → Int} (h : EvW acts k (m, R, A, T)) (hs : 0 ≤ s ∧ s < m) (hn : ∀ i, 0 ≤ i → i < R → ¬ T i = 2 * s + 1) : EvW acts (k + 1) (m, R + 1, A, up1 T R (2 * s + 1)) := by
  obtain ⟨h1, h2, h3, h4, h5⟩ := h
  dsimp only at h1 h2 h3 h4 h5
  refine ⟨⟨h1.1, by dsimp only; omega⟩, by dsimp only; omega, h3, fun i z1 z2 => ?_, fun i j z1 z2 z3 => ?_⟩
  · dsimp only at z2 ⊢
    by_cases hs : i = R
    · rw [hs, up1_eq]; omega
    · rw [up1_ne _ _ hs]
      have := h4 i z1 (by omega)
      omega
  · dsimp only at z3 ⊢
    have hi : ¬ i = R := by omega
    rw [up1_ne _ _ hi]
    by_cases hs : j = R
    · rw [hs, up1_eq]
      exact hn i z1 (by omega)
    · rw [up1_ne _ _ hs]; exact h5 i j z1 z2 (by omega)
theorem evS_s {acts : Int} {ev : Int → Int} (n : Nat) (k m R : Int) (A T : Int → Int) : evS acts ev (n + 1) k (m, R, A, T) = if ev k < 12 then (if ev k < acts then evS acts ev n (k + 1) (m + 1, R + 1, up1 A m (ev k), up1 T R (2 * m)) else none)
      else @ite _ (ev k - 12 < m ∧ ∀ i, 0 ≤ i → i < R → ¬ T i = 2 * (ev k - 12) + 1) (Classical.propDecidable _) (evS acts ev n (k + 1) (m, R + 1, A, up1 T R (2 * (ev k - 12) + 1))) none := rfl
theorem evS_W {acts : Int} {ev : Int → Int} : ∀ (n : Nat) (k : Int) (st st1 : EvT), (∀ i, k ≤ i → i < k + n → 0 ≤ ev i) → EvW acts k st → evS acts ev n k st = some st1 → EvW acts (k + n) st1 := by
  intro n
  induction n with
  | zero =>
    intro k st st1 _ hw h
    rw [evS] at h
    cases h
    simpa using hw
  | succ n ih =>
    intro k st st1 he hw h
    obtain ⟨m, R, A, T⟩ := st
    have e0 := he k (by omega) (by omega)
    have ek : k + ((n + 1 : Nat) : Int) = k + 1 + n := by omega
    rw [ek]
    rw [evS_s] at h
    split at h
    · split at h
      · exact ih (k + 1) _ st1 (fun i z1 z2 => he i (by omega) (by omega)) (hw.beg ⟨e0, by assumption⟩) h
      · cases h
    · split at h
      · rename_i h12 hc
        exact ih (k + 1) _ st1 (fun i z1 z2 => he i (by omega) (by omega)) (hw.fin ⟨by omega, hc.1⟩ hc.2) h
      · cases h
/-- two rows that agree as far as they go -/
def EvE (a b : EvT) : Prop := a.1 = b.1 ∧ a.2.1 = b.2.1 ∧ (∀ s, 0 ≤ s → s < b.1 → a.2.2.1 s = b.2.2.1 s) ∧ (∀ i, 0 ≤ i → i < b.2.1 → a.2.2.2 i = b.2.2.2 i)
theorem evS_E {acts : Int} {ev ev1 : Int → Int} : ∀ (n : Nat) (k : Int) (a b : EvT), (∀ i, k ≤ i → i < k + n → ev1 i = ev i) → EvE a b → (evS acts ev1 n k a = none ∧ evS acts ev n k b = none) ∨ (∃ a1 b1, evS acts ev1 n k a = some a1 ∧ evS acts ev n k b = some b1 ∧ EvE a1 b1) := by
  intro n
  induction n with
  | zero =>
    intro k a b _ h
    exact Or.inr ⟨a, b, rfl, rfl, h⟩
  | succ n ih =>
    intro k a b he h
    obtain ⟨m, R, A, T⟩ := a
    obtain ⟨m1, R1, A1, T1⟩ := b
    obtain ⟨h1, h2, h3, h4⟩ := h
    dsimp only at h1 h2 h3 h4
    subst h1 h2
    rw [evS_s, evS_s, he k (by omega) (by omega)]
    by_cases c1 : ev k < 12
    · rw [if_pos c1, if_pos c1]
      by_cases c2 : ev k < acts
      · rw [if_pos c2, if_pos c2]
        refine ih (k + 1) _ _ (fun i z1 z2 => he i (by omega) (by omega)) ⟨rfl, rfl, fun s z1 z2 => ?_, fun i z1 z2 => ?_⟩
        · dsimp only at z2 ⊢
          by_cases hs : s = m
          · rw [hs, up1_eq, up1_eq]
          · rw [up1_ne _ _ hs, up1_ne _ _ hs]; exact h3 s z1 (by omega)
        · dsimp only at z2 ⊢
          by_cases hs : i = R
          · rw [hs, up1_eq, up1_eq]
          · rw [up1_ne _ _ hs, up1_ne _ _ hs]; exact h4 i z1 (by omega)
      · rw [if_neg c2, if_neg c2]
        exact Or.inl ⟨rfl, rfl⟩
    · rw [if_neg c1, if_neg c1]
      have hiff : (ev k - 12 < m ∧ ∀ i, 0 ≤ i → i < R → ¬ T i = 2 * (ev k - 12) + 1) ↔ (ev k - 12 < m ∧ ∀ i, 0 ≤ i → i < R → ¬ T1 i = 2 * (ev k - 12) + 1) := by
        refine and_congr_right (fun _ => ⟨fun z i z1 z2 => ?_, fun z i z1 z2 => ?_⟩)
        · rw [← h4 i z1 z2]; exact z i z1 z2
        · rw [h4 i z1 z2]; exact z i z1 z2
      by_cases c2 : ev k - 12 < m ∧ ∀ i, 0 ≤ i → i < R → ¬ T1 i = 2 * (ev k - 12) + 1
      · rw [if_pos c2, if_pos (hiff.mpr c2)]
        refine ih (k + 1) _ _ (fun i z1 z2 => he i (by omega) (by omega)) ⟨rfl, rfl, h3, fun i z1 z2 => ?_⟩
        dsimp only at z2 ⊢
        by_cases hs : i = R
        · rw [hs, up1_eq, up1_eq]
        · rw [up1_ne _ _ hs, up1_ne _ _ hs]; exact h4 i z1 (by omega)
      · rw [if_neg c2, if_neg (fun z => c2 (hiff.mp z))]
        exact Or.inl ⟨rfl, rfl⟩
theorem evS_add {acts : Int} {ev : Int → Int} : ∀ (n j : Nat) (k : Int) (st : EvT), evS acts ev (n + j) k st = (evS acts ev n k st).bind (fun s => evS acts ev j (k + n) s) := by
  intro n
  induction n with
  | zero => intro j k st; rw [Nat.zero_add]; simp [evS]
  | succ n ih =>
    intro j k st
    obtain ⟨m, R, A, T⟩ := st
    rw [show n + 1 + j = (n + j) + 1 by omega, evS_s, evS_s]
    have e : k + ((n + 1 : Nat) : Int) = k + 1 + n := by omega
    rw [e]
    split
    · split
      · exact ih j (k + 1) _
      · rfl
    · split
      · exact ih j (k + 1) _
      · rfl
/-- as many different ones as there are: all of them -/
theorem inj_full {n : Nat} {T : Int → Int} (h1 : ∀ i, 0 ≤ i → i < (n : Int) → 0 ≤ T i ∧ T i < n) (h2 : ∀ i j, 0 ≤ i → i < j → j < (n : Int) → ¬ T i = T j) : ∀ p, 0 ≤ p → p < (n : Int) → ∃ j, 0 ≤ j ∧ j < (n : Int) ∧ T j = p := by
  have hk : ∀ k : Nat, k ≤ n → k ≤ cntP (fun p => ∃ j, 0 ≤ j ∧ j < (k : Int) ∧ T j = p) n := by
    intro k
    induction k with
    | zero => intro _; exact Nat.zero_le _
    | succ k ih =>
      intro hk
      have a1 := ih (by omega)
      have t1 := h1 k (by omega) (by omega)
      have := cntP_lt (A := fun p => ∃ j, 0 ≤ j ∧ j < ((k + 1 : Nat) : Int) ∧ T j = p) (B := fun p => ∃ j, 0 ≤ j ∧ j < (k : Int) ∧ T j = p) (p := T k) t1.1 ⟨k, by omega, by omega, rfl⟩ (fun ⟨j, z1, z2, z3⟩ => h2 j k z1 z2 (by omega) z3) n t1.2 (fun q _ _ ⟨j, z1, z2, z3⟩ => ⟨j, z1, by omega, z3⟩)
      omega
  intro p p1 p2
  refine Classical.byContradiction (fun hno => ?_)
  have a1 := hk n (Nat.le_refl _)
  have a2 := cntP_lt (A := fun _ => True) (B := fun p => ∃ j, 0 ≤ j ∧ j < (n : Int) ∧ T j = p) p1 trivial hno n p2 (fun _ _ _ _ => trivial)
  have a3 := cntP_b (fun _ => True) n
  omega
section CNG
variable {m : Int} {row row1 : Int → Int} {FT FT1 : NS → Int → Int → Prop} {CC CC1 : NS → Int → Option NS} {BN BN1 : NS → Int → NB} {GO : NS → Prop}
theorem badS_c (hF : ∀ S s t, 0 ≤ s → s < m → (FT1 S s t ↔ FT S s t)) {gone : Int → Prop} {S : NS} {s : Int} (h1 : 0 ≤ s) (h2 : s < m) : badS FT1 gone S s ↔ badS FT gone S s := by
  unfold badS
  rw [hF S s 1 h1 h2]
theorem WalkR_c {K : Int} (hr : ∀ k, 0 ≤ k → k < K → row1 k = row k ∧ 0 ≤ row k ∧ row k < 2 * m) (hF : ∀ S s t, 0 ≤ s → s < m → (FT1 S s t ↔ FT S s t)) (hC : ∀ S p, 0 ≤ p → p < 2 * m → CC1 S p = CC S p) (hB : ∀ S s, 0 ≤ s → s < m → BN1 S s = BN S s) : ∀ (n : Nat) (k : Int) (gone : Int → Prop) (S : NS) (B : Int → NB) (why pt : Int) (S1 : NS) (B1 : Int → NB), k + n = K → 0 ≤ k → WalkR m row1 FT1 CC1 BN1 GO n k gone S B why pt S1 B1 → WalkR m row FT CC BN GO n k gone S B why pt S1 B1 := by
  intro n
  induction n with
  | zero => intro k gone S B why pt S1 B1 _ _ h; exact h
  | succ n ih =>
    intro k gone S B why pt S1 B1 hk h0 h
    obtain ⟨r1, r2, r3⟩ := hr k h0 (by omega)
    rw [WalkR, r1] at h
    rw [WalkR]
    rw [hF S _ _ (by omega) (by omega), hC S _ r2 r3, hB S _ (by omega) (by omega)] at h
    rcases h with h | ⟨h1, h | ⟨S2, h2, h | ⟨h3, h4⟩⟩⟩
    · exact Or.inl h
    · exact Or.inr ⟨h1, Or.inl h⟩
    · obtain ⟨s, s1, s2, s3, s4, s5, s6⟩ := h
      exact Or.inr ⟨h1, Or.inr ⟨S2, h2, Or.inl ⟨s, s1, s2, s3, (badS_c hF s2 s3).mp s4, fun r z1 z2 z => s5 r z1 z2 ((badS_c hF z1 (by omega)).mpr z), s6⟩⟩⟩
    · exact Or.inr ⟨h1, Or.inr ⟨S2, h2, Or.inr ⟨fun r z1 z2 z => h3 r z1 z2 ((badS_c hF z1 z2).mpr z), ih (k + 1) _ _ _ _ _ _ _ (by omega) (by omega) h4⟩⟩⟩
/-- the walk ends in one way only -/
theorem WalkR_det : ∀ (n : Nat) (k : Int) (gone : Int → Prop) (S : NS) (B : Int → NB) (why pt : Int) (S1 : NS) (B1 : Int → NB) (why' pt' : Int) (S1' : NS) (B1' : Int → NB), WalkR m row FT CC BN GO n k gone S B why pt S1 B1 → WalkR m row FT CC BN GO n k gone S B why' pt' S1' B1' → why = why' ∧ S1 = S1' ∧ (why = 0 → B1 = B1') ∧ (why ≤ 5 → why ≠ 0 → pt = pt') := by
  intro n
  induction n with
  | zero =>
    intro k gone S B why pt S1 B1 why' pt' S1' B1' h h'
    obtain ⟨a1, a2, a3⟩ := h
    obtain ⟨b1, b2, b3⟩ := h'
    refine ⟨?_, by rw [a1, b1], fun _ => by rw [a2, b2], fun z1 z2 => ?_⟩
    · rcases a3 with ⟨x, y⟩ | ⟨x, y⟩ <;> rcases b3 with ⟨x', y'⟩ | ⟨x', y'⟩
      · omega
      · exact absurd x x'
      · exact absurd x' x
      · omega
    · rcases a3 with ⟨x, y⟩ | ⟨x, y⟩ <;> omega
  | succ n ih =>
    intro k gone S B why pt S1 B1 why' pt' S1' B1' h h'
    rw [WalkR] at h h'
    rcases h with ⟨f, a2, a3, a4⟩ | ⟨f, h⟩
    · rcases h' with ⟨f', b2, b3, b4⟩ | ⟨f', h'⟩
      · exact ⟨by omega, by rw [a4, b4], fun z => by omega, fun _ _ => by rw [a3, b3]⟩
      · exact absurd f' f
    · rcases h' with ⟨f', b2, b3, b4⟩ | ⟨f', h'⟩
      · exact absurd f f'
      · rcases h with ⟨c, a2, a3, a4⟩ | ⟨S2, c, h⟩
        · rcases h' with ⟨c', b2, b3, b4⟩ | ⟨S2', c', h'⟩
          · exact ⟨by omega, by rw [a4, b4], fun z => by omega, fun _ _ => by rw [a3, b3]⟩
          · rw [c] at c'; cases c'
        · rcases h' with ⟨c', b2, b3, b4⟩ | ⟨S2', c', h'⟩
          · rw [c] at c'; cases c'
          · rw [c] at c'
            cases c'
            rcases h with ⟨s, s1, s2, s3, s4, s5, s6, s7⟩ | ⟨hn, h⟩
            · rcases h' with ⟨r, r1, r2, r3, r4, r5, r6, r7⟩ | ⟨hn', h'⟩
              · have e : s = r := by
                  by_cases h1 : s < r
                  · exact absurd s4 (r5 s s2 h1)
                  · by_cases h2 : r < s
                    · exact absurd r4 (s5 r r2 h2)
                    · omega
                exact ⟨by omega, by rw [s7, r7], fun z => by omega, fun _ _ => by rw [s1, r1, e]⟩
              · exact absurd s4 (hn' s s2 s3)
            · rcases h' with ⟨r, r1, r2, r3, r4, r5, r6, r7⟩ | ⟨hn', h'⟩
              · exact absurd r4 (hn r r2 r3)
              · exact ih _ _ _ _ _ _ _ _ _ _ _ _ h h'
end CNG
theorem Sol_c {m R : Int} {row row1 : Int → Int} {I I1 : Int → Int → Prop} {eN eD u : Int} {lN lD gN gD : Int → Int} (hr : ∀ k, 0 ≤ k → k < R → row1 k = row k ∧ 0 ≤ row k ∧ row k < 2 * m) (hI : ∀ p q, 0 ≤ p → p < 2 * m → 0 ≤ q → q < 2 * m → (I1 p q ↔ I p q)) {t : Int → Int} : SolB m R row1 I1 eN eD u lN lD gN gD t ↔ SolB m R row I eN eD u lN lD gN gD t := by
  refine and_congr_right (fun _ => and_congr ?_ Iff.rfl)
  refine forall_congr' (fun i => forall_congr' (fun k => forall_congr' (fun z1 => forall_congr' (fun z2 => forall_congr' (fun z3 => ?_)))))
  obtain ⟨a1, a2, a3⟩ := hr i z1 (by omega)
  obtain ⟨b1, b2, b3⟩ := hr k (by omega) z3
  rw [a1, b1]
  have e : wgt I1 (eN * (u / eD)) (row i) (row k) = wgt I (eN * (u / eD)) (row i) (row k) := by
    by_cases h : I (row i) (row k)
    · rw [wgt_y h, wgt_y ((hI _ _ a2 a3 b2 b3).mpr h)]
    · rw [wgt_n h, wgt_n (fun z => h ((hI _ _ a2 a3 b2 b3).mp z))]
  rw [e]
theorem ArrR_c {m R : Int} {row row1 : Int → Int} {FT FT1 : NS → Int → Int → Prop} {CC CC1 : NS → Int → Option NS} {BN BN1 : NS → Int → NB} {GO : NS → Prop} {I I1 : Int → Int → Prop} {eN eD : Int} (hR : 0 ≤ R) (hr : ∀ k, 0 ≤ k → k < R → row1 k = row k ∧ 0 ≤ row k ∧ row k < 2 * m) (hF : ∀ S s t, 0 ≤ s → s < m → (FT1 S s t ↔ FT S s t)) (hC : ∀ S p, 0 ≤ p → p < 2 * m → CC1 S p = CC S p) (hB : ∀ S s, 0 ≤ s → s < m → BN1 S s = BN S s) (hI : ∀ p q, 0 ≤ p → p < 2 * m → 0 ≤ q → q < 2 * m → (I1 p q ↔ I p q)) {S0 : NS} {why pt : Int} {S1 : NS} {u : Int} {t : Int → Int} (h : ArrR m R row1 FT1 CC1 BN1 GO I1 eN eD S0 why pt S1 u t) : ArrR m R row FT CC BN GO I eN eD S0 why pt S1 u t := by
  obtain ⟨w0, B1, hW, h⟩ := h
  refine ⟨w0, B1, WalkR_c hr hF hC hB R.toNat 0 _ _ _ _ _ _ _ (by omega) (by omega) hW, ?_⟩
  rcases h with h | ⟨h0, h | ⟨u0, h1, ⟨h2, h3⟩ | ⟨h2, h3, h4, h5⟩⟩⟩
  · exact Or.inl h
  · exact Or.inr ⟨h0, Or.inl h⟩
  · exact Or.inr ⟨h0, Or.inr ⟨u0, h1, Or.inl ⟨h2, fun ⟨v, hv⟩ => h3 ⟨v, (Sol_c hr hI).mpr hv⟩⟩⟩⟩
  · exact Or.inr ⟨h0, Or.inr ⟨u0, h1, Or.inr ⟨h2, h3, (Sol_c hr hI).mp h4, fun v hv => h5 v ((Sol_c hr hI).mpr hv)⟩⟩⟩
theorem ArrR_det {m R : Int} {row : Int → Int} {FT : NS → Int → Int → Prop} {CC : NS → Int → Option NS} {BN : NS → Int → NB} {GO : NS → Prop} {I : Int → Int → Prop} {eN eD : Int} {S0 : NS} {why pt : Int} {S1 : NS} {u : Int} {t : Int → Int} {why' pt' : Int} {S1' : NS} {u' : Int} {t' : Int → Int} (h : ArrR m R row FT CC BN GO I eN eD S0 why pt S1 u t) (h' : ArrR m R row FT CC BN GO I eN eD S0 why' pt' S1' u' t') : why = why' ∧ S1 = S1' ∧ (1 ≤ why → why ≤ 5 → pt = pt') ∧ (why = 0 → u = u' ∧ ∀ p, 0 ≤ p → p < 2 * m → t p = t' p) := by
  obtain ⟨w0, B1, hW, h⟩ := h
  obtain ⟨w0', B1', hW', h'⟩ := h'
  obtain ⟨d1, d2, d3, d4⟩ := WalkR_det _ _ _ _ _ _ _ _ _ _ _ _ _ hW hW'
  subst d1
  rcases h with ⟨a1, a2⟩ | ⟨a0, h⟩
  · rcases h' with ⟨b1, b2⟩ | ⟨b0, h'⟩
    · exact ⟨by omega, d2, fun z1 z2 => d4 (by omega) (by omega), fun z => by omega⟩
    · omega
  · rcases h' with ⟨b1, b2⟩ | ⟨b0, h'⟩
    · omega
    · have e := d3 a0
      subst e
      rcases h with ⟨a1, a2⟩ | ⟨u0, a1, h⟩
      · rcases h' with ⟨b1, b2⟩ | ⟨u0', b1, h'⟩
        · exact ⟨by omega, d2, fun z1 z2 => by omega, fun z => by omega⟩
        · rw [a1] at b1; cases b1
      · rcases h' with ⟨b1, b2⟩ | ⟨u0', b1, h'⟩
        · rw [a1] at b1; cases b1
        · rw [a1] at b1
          cases b1
          rcases h with ⟨a2, a3⟩ | ⟨a2, a3, a4, a5⟩
          · rcases h' with ⟨b2, b3⟩ | ⟨b2, b3, b4, b5⟩
            · exact ⟨by omega, d2, fun z1 z2 => by omega, fun z => by omega⟩
            · exact absurd ⟨_, b4⟩ a3
          · rcases h' with ⟨b2, b3⟩ | ⟨b2, b3, b4, b5⟩
            · exact absurd ⟨_, a4⟩ b3
            · refine ⟨by omega, d2, fun z1 z2 => by omega, fun _ => ⟨by omega, fun p z1 z2 => ?_⟩⟩
              have := a5 _ b4 p z1 z2
              have := b5 _ a4 p z1 z2
              omega
/-- the first of several -/
def fstC {α : Type} (f : Int → Option α) : Nat → Int → Option α
  | 0, _ => none
  | n + 1, c => match f c with
    | some r => some r
    | none => fstC f n (c + 1)
/-- the first good row of events that begins as ev does -/
noncomputable def findE (good : (Int → Int) → Prop) : Nat → Int → (Int → Int) → Option (Int → Int)
  | 0, _, ev => @ite _ (good ev) (Classical.propDecidable _) (some ev) none
  | n + 1, a, ev => fstC (fun c => findE good n (a + 1) (up1 ev a c)) 15 0
theorem fstC_none {α : Type} {f : Int → Option α} : ∀ (n : Nat) (c : Int), fstC f n c = none ↔ ∀ i, c ≤ i → i < c + n → f i = none := by
  intro n
  induction n with
  | zero => intro c; exact ⟨fun _ i z1 z2 => by omega, fun _ => rfl⟩
  | succ n ih =>
    intro c
    rw [fstC]
    cases h : f c with
    | some r => exact ⟨fun z => (by cases z), fun z => by rw [z c (by omega) (by omega)] at h; cases h⟩
    | none =>
      refine Iff.trans (ih (c + 1)) ⟨fun z i z1 z2 => ?_, fun z i z1 z2 => z i (by omega) (by omega)⟩
      by_cases hi : i = c
      · rw [hi]; exact h
      · exact z i (by omega) (by omega)
theorem findE_none {good : (Int → Int) → Prop} : ∀ (n : Nat) (a : Int) (ev : Int → Int), (∀ ev1, (∀ i, ¬ (a ≤ i ∧ i < a + n) → ev1 i = ev i) → (∀ i, a ≤ i → i < a + n → 0 ≤ ev1 i ∧ ev1 i < 15) → ¬ good ev1) → findE good n a ev = none := by
  intro n
  induction n with
  | zero =>
    intro a ev h
    rw [findE, if_neg (h ev (fun _ _ => rfl) (fun i z1 z2 => by omega))]
  | succ n ih =>
    intro a ev h
    rw [findE, fstC_none]
    intro c z1 z2
    refine ih (a + 1) (up1 ev a c) (fun ev1 y1 y2 => h ev1 (fun i hi => ?_) (fun i w1 w2 => ?_))
    · rw [y1 i (by omega), up1_ne _ _ (by omega)]
    · by_cases hi : i = a
      · rw [y1 i (by omega), hi, up1_eq]
        omega
      · exact y2 i (by omega) (by omega)
/-- the same in terms of the actions done -/
def ArrA (m R : Int) (row A : Int → Int) (FA : NS → Int → Int → Prop) (CA : NS → Int → Int → Option NS) (BA : NS → Int → NB) (GO : NS → Prop) (IA : Int → Int → Int → Int → Prop) (eN eD : Int) (S0 : NS) (why pt : Int) (S1 : NS) (u : Int) (t : Int → Int) : Prop := ArrR m R row (fun S s t => FA S (A s) t) (fun S p => CA S (A (p / 2)) (tmo p)) (fun S s => BA S (A s)) GO (fun p q => IA (A (p / 2)) (tmo p) (A (q / 2)) (tmo q)) eN eD S0 why pt S1 u t
theorem ArrA_c {m R : Int} {row row1 A A1 : Int → Int} {FA : NS → Int → Int → Prop} {CA : NS → Int → Int → Option NS} {BA : NS → Int → NB} {GO : NS → Prop} {IA : Int → Int → Int → Int → Prop} {eN eD : Int} {S0 : NS} {why pt : Int} {S1 : NS} {u : Int} {t : Int → Int} (hR : 0 ≤ R) (hr : ∀ k, 0 ≤ k → k < R → row1 k = row k ∧ 0 ≤ row k ∧ row k < 2 * m) (hA : ∀ s, 0 ≤ s → s < m → A1 s = A s) (h : ArrA m R row1 A1 FA CA BA GO IA eN eD S0 why pt S1 u t) : ArrA m R row A FA CA BA GO IA eN eD S0 why pt S1 u t :=
  ArrR_c hR hr (fun S s t z1 z2 => by rw [hA s z1 z2]) (fun S p z1 z2 => by rw [hA (p / 2) (by omega) (by omega)]) (fun S s z1 z2 => by rw [hA s z1 z2]) (fun p q z1 z2 z3 z4 => by rw [hA (p / 2) (by omega) (by omega), hA (q / 2) (by omega) (by omega)]) h
def GoodE (acts : Int) (FA : NS → Int → Int → Prop) (CA : NS → Int → Int → Option NS) (BA : NS → Int → NB) (GO : NS → Prop) (IA : Int → Int → Int → Int → Prop) (eN eD : Int) (S0 : NS) (many : Nat) (ev : Int → Int) : Prop := ∃ m R A T pt S1 u t, evS acts ev many 0 (0, 0, fun _ => 0, fun _ => 0) = some (m, R, A, T) ∧ R = 2 * m ∧ ArrA m R T A FA CA BA GO IA eN eD S0 0 pt S1 u t
theorem GoodE_pre {acts : Int} {FA : NS → Int → Int → Prop} {CA : NS → Int → Int → Option NS} {BA : NS → Int → NB} {GO : NS → Prop} {IA : Int → Int → Int → Int → Prop} {eN eD : Int} {S0 : NS} {n j : Nat} {ev ev1 : Int → Int} (h : evS acts ev n 0 (0, 0, fun _ => 0, fun _ => 0) = none) (he : ∀ i, 0 ≤ i → i < (n : Int) → ev1 i = ev i) : ¬ GoodE acts FA CA BA GO IA eN eD S0 (n + j) ev1 := by
  rintro ⟨m, R, A, T, pt, S1, u, t, h1, -⟩
  rw [evS_add] at h1
  rcases evS_E (acts := acts) n 0 (0, 0, fun _ => 0, fun _ => 0) (0, 0, fun _ => 0, fun _ => 0) (fun i z1 z2 => he i z1 (by omega)) ⟨rfl, rfl, fun _ _ _ => rfl, fun _ _ _ => rfl⟩ with ⟨a, b⟩ | ⟨a1, b1, a, b, c⟩
  · rw [a] at h1; cases h1
  · rw [h] at b; cases b

section R56
variable {pre post mem : AM}
variable {code amountN amountD momentN momentD epsilonN epsilonD actions steps rows tried triedRows unit point judged fault faultPoint outN outD : Int}
variable {firstN firstD wishes wants wantN wantD needs needTime needOf needHow needN needD changes changeTime changeOf changeHow changeN changeD lastOf lastN lastD stepAction startN startD lengthN lengthD row triedAction triedRow times numN numD oldN oldD toldN toldD pointN pointD leastN leastD greatestN greatestD events : Int → Int}
variable {firstFacts facts oldFacts toldFacts gone now : Int → Prop}
theorem te_in {d n0 : Nat} (hp : pre.length = 168) (wV : 0 ≤ triedRows ∧ triedRows ≤ 24) (hrow : ∀ k, 0 ≤ k → k < triedRows → 0 ≤ triedRow k ∧ triedRow k < 100) {s k many : Int} (hs : 0 ≤ s ∧ s < 12) {o : Option Value ⊕ Nat} {mem1 : AM} (hg : Rg false d m_Mo_takeEvents n0 131 [(4, .int (iI s)), (2, .int (iI k)), (1, .int (iI many)), (0, .ref 168)] [] (MR pre code amountN amountD momentN momentD epsilonN epsilonD firstFacts firstN firstD wishes wants wantN wantD actions needs needTime needOf needHow needN needD changes changeTime changeOf changeHow changeN changeD lastOf lastN lastD steps stepAction startN startD lengthN lengthD rows row tried triedAction triedRows triedRow times unit facts numN numD oldFacts oldN oldD point judged fault faultPoint toldFacts toldN toldD outN outD pointN pointD gone now leastN leastD greatestN greatestD events post) o mem1) : ∀ (n : Nat) (i : Int), i + n = triedRows → 0 ≤ i → (∀ j, i ≤ j → j < triedRows → ¬ triedRow j = 2 * s + 1) → Rg false d m_Mo_takeEvents n0 98 [(5, .int (iI i)), (4, .int (iI s)), (2, .int (iI k)), (1, .int (iI many)), (0, .ref 168)] [] (MR pre code amountN amountD momentN momentD epsilonN epsilonD firstFacts firstN firstD wishes wants wantN wantD actions needs needTime needOf needHow needN needD changes changeTime changeOf changeHow changeN changeD lastOf lastN lastD steps stepAction startN startD lengthN lengthD rows row tried triedAction triedRows triedRow times unit facts numN numD oldFacts oldN oldD point judged fault faultPoint toldFacts toldN toldD outN outD pointN pointD gone now leastN leastD greatestN greatestD events post) o mem1 := by
  intro n
  induction n with
  | zero =>
    intro i hi hi2 hn
    refine Rg.step 100 F_Mo_takeEvents_98 rfl (fun _ => rfl) ?_
    refine Rg.step 101 F_Mo_takeEvents_100 rfl (fun _ => rfl) ?_
    refine Rg.getf 104 F_Mo_takeEvents_101 rfl rF_26_283 (gM hp) rfl ?_
    refine Rg.icgeI 131 107 F_Mo_takeEvents_104 rfl rfl (by omega) (by omega) (fun _ => ?_) (fun h104 => by omega)
    exact Rg.weak hg (by simp [lput1, lput2, Value.category, fi0, fi1, fi2, fi3] <;> first | rfl | exact ⟨rfl, rfl⟩) (by simp [lput1, lput2, Value.category, fi0, fi1, fi2, fi3] <;> first | rfl | exact ⟨rfl, rfl⟩)
  | succ n ih =>
    intro i hi hi2 hn
    have r1 := hrow i hi2 (by omega)
    have r2 := hn i (by omega) (by omega)
    refine Rg.step 100 F_Mo_takeEvents_98 rfl (fun _ => rfl) ?_
    refine Rg.step 101 F_Mo_takeEvents_100 rfl (fun _ => rfl) ?_
    refine Rg.getf 104 F_Mo_takeEvents_101 rfl rF_26_283 (gM hp) rfl ?_
    refine Rg.icgeI 131 107 F_Mo_takeEvents_104 rfl rfl (by omega) (by omega) (fun h104 => by omega) (fun _ => ?_)
    refine Rg.step 108 F_Mo_takeEvents_107 rfl (fun _ => rfl) ?_
    refine Rg.getf 111 F_Mo_takeEvents_108 rfl rF_26_114 (gM hp) rfl ?_
    refine Rg.step 113 F_Mo_takeEvents_111 rfl (fun _ => rfl) ?_
    refine Rg.ild 114 F_Mo_takeEvents_113 rfl (gR_triedRow hp) (by omega) (by decide) ?_
    refine Rg.step 115 F_Mo_takeEvents_114 rfl (fun _ => rfl) ?_
    refine Rg.step 117 F_Mo_takeEvents_115 rfl (fun _ => rfl) ?_
    refine Rg.mulI 118 F_Mo_takeEvents_117 rfl ?_
    refine Rg.step 119 F_Mo_takeEvents_118 rfl (fun _ => rfl) ?_
    refine Rg.addI 120 F_Mo_takeEvents_119 rfl ?_
    refine Rg.icneI 125 123 F_Mo_takeEvents_120 rfl rfl (by omega) (by omega) (fun _ => ?_) (fun h120 => by omega)
    refine Rg.inc 128 F_Mo_takeEvents_125 rfl rfl (by decide) ?_
    refine Rg.step 98 F_Mo_takeEvents_128 rfl (fun _ => rfl) ?_
    exact Rg.weak (ih (i + 1) (by omega) (by omega) (fun j z1 z2 => hn j (by omega) z2)) (by simp [lput1, lput2, Value.category, fi0, fi1, fi2, fi3] <;> first | rfl | exact ⟨rfl, rfl⟩) (by simp [lput1, lput2, Value.category, fi0, fi1, fi2, fi3] <;> first | rfl | exact ⟨rfl, rfl⟩)
theorem te_hit {d n0 : Nat} (hp : pre.length = 168) (wV : 0 ≤ triedRows ∧ triedRows ≤ 24) (hrow : ∀ k, 0 ≤ k → k < triedRows → 0 ≤ triedRow k ∧ triedRow k < 100) {s k many : Int} (hs : 0 ≤ s ∧ s < 12) {B : Prop} (hB : ¬ B) : ∀ (n : Nat) (i : Int), i + n = triedRows → 0 ≤ i → (∃ j, i ≤ j ∧ j < triedRows ∧ triedRow j = 2 * s + 1) → Rg false d m_Mo_takeEvents n0 98 [(5, .int (iI i)), (4, .int (iI s)), (2, .int (iI k)), (1, .int (iI many)), (0, .ref 168)] [] (MR pre code amountN amountD momentN momentD epsilonN epsilonD firstFacts firstN firstD wishes wants wantN wantD actions needs needTime needOf needHow needN needD changes changeTime changeOf changeHow changeN changeD lastOf lastN lastD steps stepAction startN startD lengthN lengthD rows row tried triedAction triedRows triedRow times unit facts numN numD oldFacts oldN oldD point judged fault faultPoint toldFacts toldN toldD outN outD pointN pointD gone now leastN leastD greatestN greatestD events post) (.inl (some (.int (bP B)))) (MR pre code amountN amountD momentN momentD epsilonN epsilonD firstFacts firstN firstD wishes wants wantN wantD actions needs needTime needOf needHow needN needD changes changeTime changeOf changeHow changeN changeD lastOf lastN lastD steps stepAction startN startD lengthN lengthD rows row tried triedAction triedRows triedRow times unit facts numN numD oldFacts oldN oldD point judged fault faultPoint toldFacts toldN toldD outN outD pointN pointD gone now leastN leastD greatestN greatestD events post) := by
  intro n
  induction n with
  | zero =>
    rintro i hi hi2 ⟨j, j1, j2, j3⟩
    omega
  | succ n ih =>
    intro i hi hi2 hn
    have r1 := hrow i hi2 (by omega)
    by_cases hq : triedRow i = 2 * s + 1
    · skip
      refine Rg.step 100 F_Mo_takeEvents_98 rfl (fun _ => rfl) ?_
      refine Rg.step 101 F_Mo_takeEvents_100 rfl (fun _ => rfl) ?_
      refine Rg.getf 104 F_Mo_takeEvents_101 rfl rF_26_283 (gM hp) rfl ?_
      refine Rg.icgeI 131 107 F_Mo_takeEvents_104 rfl rfl (by omega) (by omega) (fun h104 => by omega) (fun _ => ?_)
      refine Rg.step 108 F_Mo_takeEvents_107 rfl (fun _ => rfl) ?_
      refine Rg.getf 111 F_Mo_takeEvents_108 rfl rF_26_114 (gM hp) rfl ?_
      refine Rg.step 113 F_Mo_takeEvents_111 rfl (fun _ => rfl) ?_
      refine Rg.ild 114 F_Mo_takeEvents_113 rfl (gR_triedRow hp) (by omega) (by decide) ?_
      refine Rg.step 115 F_Mo_takeEvents_114 rfl (fun _ => rfl) ?_
      refine Rg.step 117 F_Mo_takeEvents_115 rfl (fun _ => rfl) ?_
      refine Rg.mulI 118 F_Mo_takeEvents_117 rfl ?_
      refine Rg.step 119 F_Mo_takeEvents_118 rfl (fun _ => rfl) ?_
      refine Rg.addI 120 F_Mo_takeEvents_119 rfl ?_
      refine Rg.icneI 125 123 F_Mo_takeEvents_120 rfl rfl (by omega) (by omega) (fun h120 => by omega) (fun _ => ?_)
      refine Rg.step 124 F_Mo_takeEvents_123 rfl (fun _ => rfl) ?_
      exact Rg.ret0 F_Mo_takeEvents_124 rfl hB rfl
    · have hn2 : ∃ j, i + 1 ≤ j ∧ j < triedRows ∧ triedRow j = 2 * s + 1 := by
        obtain ⟨j, j1, j2, j3⟩ := hn
        by_cases hj : j = i
        · exact absurd (hj ▸ j3) hq
        · exact ⟨j, by omega, j2, j3⟩
      refine Rg.step 100 F_Mo_takeEvents_98 rfl (fun _ => rfl) ?_
      refine Rg.step 101 F_Mo_takeEvents_100 rfl (fun _ => rfl) ?_
      refine Rg.getf 104 F_Mo_takeEvents_101 rfl rF_26_283 (gM hp) rfl ?_
      refine Rg.icgeI 131 107 F_Mo_takeEvents_104 rfl rfl (by omega) (by omega) (fun h104 => by omega) (fun _ => ?_)
      refine Rg.step 108 F_Mo_takeEvents_107 rfl (fun _ => rfl) ?_
      refine Rg.getf 111 F_Mo_takeEvents_108 rfl rF_26_114 (gM hp) rfl ?_
      refine Rg.step 113 F_Mo_takeEvents_111 rfl (fun _ => rfl) ?_
      refine Rg.ild 114 F_Mo_takeEvents_113 rfl (gR_triedRow hp) (by omega) (by decide) ?_
      refine Rg.step 115 F_Mo_takeEvents_114 rfl (fun _ => rfl) ?_
      refine Rg.step 117 F_Mo_takeEvents_115 rfl (fun _ => rfl) ?_
      refine Rg.mulI 118 F_Mo_takeEvents_117 rfl ?_
      refine Rg.step 119 F_Mo_takeEvents_118 rfl (fun _ => rfl) ?_
      refine Rg.addI 120 F_Mo_takeEvents_119 rfl ?_
      refine Rg.icneI 125 123 F_Mo_takeEvents_120 rfl rfl (by omega) (by omega) (fun _ => ?_) (fun h120 => by omega)
      refine Rg.inc 128 F_Mo_takeEvents_125 rfl rfl (by decide) ?_
      refine Rg.step 98 F_Mo_takeEvents_128 rfl (fun _ => rfl) ?_
      exact Rg.weak (ih (i + 1) (by omega) (by omega) hn2) (by simp [lput1, lput2, Value.category, fi0, fi1, fi2, fi3] <;> first | rfl | exact ⟨rfl, rfl⟩) (by simp [lput1, lput2, Value.category, fi0, fi1, fi2, fi3] <;> first | rfl | exact ⟨rfl, rfl⟩)
theorem te_loop {d n0 : Nat} (hp : pre.length = 168) (wA : 0 ≤ actions ∧ actions ≤ 12) {many : Int} (hm : 0 ≤ many ∧ many ≤ 6) (hev : ∀ i, 0 ≤ i → i < many → 0 ≤ events i ∧ events i < 15) : ∀ (n : Nat) (k m R : Int) (A T : Int → Int), k + n = many → 0 ≤ k → EvW actions k (m, R, A, T) → (∀ s, 0 ≤ A s ∧ A s < 12) → ∃ (m1 R1 : Int) (A1 T1 : Int → Int), (∀ st, evS actions events n k (m, R, A, T) = some st → st = (m1, R1, A1, T1)) ∧ (∀ s, 0 ≤ A1 s ∧ A1 s < 12) ∧ Rg false d m_Mo_takeEvents n0 12 [(2, .int (iI k)), (1, .int (iI many)), (0, .ref 168)] [] (MR pre code amountN amountD momentN momentD epsilonN epsilonD firstFacts firstN firstD wishes wants wantN wantD actions needs needTime needOf needHow needN needD changes changeTime changeOf changeHow changeN changeD lastOf lastN lastD steps stepAction startN startD lengthN lengthD rows row m A R T times unit facts numN numD oldFacts oldN oldD point judged fault faultPoint toldFacts toldN toldD outN outD pointN pointD gone now leastN leastD greatestN greatestD events post) (.inl (some (.int (bP (∃ st, evS actions events n k (m, R, A, T) = some st))))) (MR pre code amountN amountD momentN momentD epsilonN epsilonD firstFacts firstN firstD wishes wants wantN wantD actions needs needTime needOf needHow needN needD changes changeTime changeOf changeHow changeN changeD lastOf lastN lastD steps stepAction startN startD lengthN lengthD rows row m1 A1 R1 T1 times unit facts numN numD oldFacts oldN oldD point judged fault faultPoint toldFacts toldN toldD outN outD pointN pointD gone now leastN leastD greatestN greatestD events post) := by
  intro n
  induction n with
  | zero =>
    intro k m R A T hk hk2 hW hA
    refine ⟨m, R, A, T, fun st z => (Option.some.inj z).symm, hA, ?_⟩
    refine Rg.step 13 F_Mo_takeEvents_12 rfl (fun _ => rfl) ?_
    refine Rg.step 14 F_Mo_takeEvents_13 rfl (fun _ => rfl) ?_
    refine Rg.icgeI 162 17 F_Mo_takeEvents_14 rfl rfl (by omega) (by omega) (fun _ => ?_) (fun h14 => by omega)
    refine Rg.step 163 F_Mo_takeEvents_162 rfl (fun _ => rfl) ?_
    exact Rg.ret1 F_Mo_takeEvents_163 rfl ⟨_, rfl⟩ rfl
  | succ n ih =>
    intro k m R A T hk hk2 hW hA
    have e1 := hev k hk2 (by omega)
    have w1 := hW.1
    have w2 : R = k := hW.2.1
    dsimp only at w1
    by_cases c1 : events k < 12
    · by_cases c2 : events k < actions
      · have hE : evS actions events (n + 1) k (m, R, A, T) = evS actions events n (k + 1) (m + 1, R + 1, up1 A m (events k), up1 T R (2 * m)) := by rw [evS_s, if_pos c1, if_pos c2]
        rw [hE]
        obtain ⟨m1, R1, A1, T1, i1, i2, ht⟩ := ih (k + 1) (m + 1) (R + 1) (up1 A m (events k)) (up1 T R (2 * m)) (by omega) (by omega) (hW.beg ⟨e1.1, c2⟩) (fun s => by
          by_cases hs : s = m
          · rw [hs, up1_eq]; omega
          · rw [up1_ne _ _ hs]; exact hA s)
        refine ⟨m1, R1, A1, T1, i1, i2, ?_⟩
        refine Rg.step 13 F_Mo_takeEvents_12 rfl (fun _ => rfl) ?_
        refine Rg.step 14 F_Mo_takeEvents_13 rfl (fun _ => rfl) ?_
        refine Rg.icgeI 162 17 F_Mo_takeEvents_14 rfl rfl (by omega) (by omega) (fun h14 => by omega) (fun _ => ?_)
        refine Rg.step 18 F_Mo_takeEvents_17 rfl (fun _ => rfl) ?_
        refine Rg.getf 21 F_Mo_takeEvents_18 rfl rF_26_175 (gM hp) rfl ?_
        refine Rg.step 22 F_Mo_takeEvents_21 rfl (fun _ => rfl) ?_
        refine Rg.ild 23 F_Mo_takeEvents_22 rfl (gR_events hp) (by omega) (by decide) ?_
        refine Rg.step 24 F_Mo_takeEvents_23 rfl (fun _ => rfl) ?_
        refine Rg.step 25 F_Mo_takeEvents_24 rfl (fun _ => rfl) ?_
        refine Rg.bip 27 F_Mo_takeEvents_25 rfl rfl ?_
        refine Rg.icgeI 78 30 F_Mo_takeEvents_27 rfl rfl (by omega) (by omega) (fun h27 => by omega) (fun _ => ?_)
        refine Rg.step 31 F_Mo_takeEvents_30 rfl (fun _ => rfl) ?_
        refine Rg.step 32 F_Mo_takeEvents_31 rfl (fun _ => rfl) ?_
        refine Rg.getf 35 F_Mo_takeEvents_32 rfl rF_26_218 (gM hp) rfl ?_
        refine Rg.icltI 40 38 F_Mo_takeEvents_35 rfl rfl (by omega) (by omega) (fun _ => ?_) (fun h35 => by omega)
        refine Rg.step 41 F_Mo_takeEvents_40 rfl (fun _ => rfl) ?_
        refine Rg.getf 44 F_Mo_takeEvents_41 rfl rF_26_111 (gM hp) rfl ?_
        refine Rg.step 45 F_Mo_takeEvents_44 rfl (fun _ => rfl) ?_
        refine Rg.getf 48 F_Mo_takeEvents_45 rfl rF_26_280 (gM hp) rfl ?_
        refine Rg.step 49 F_Mo_takeEvents_48 rfl (fun _ => rfl) ?_
        refine Rg.ist 50 F_Mo_takeEvents_49 rfl (gR_triedAction hp) (by decide) (sR_triedAction hp) (by omega) (by decide) ?_
        refine Rg.step 51 F_Mo_takeEvents_50 rfl (fun _ => rfl) ?_
        refine Rg.getf 54 F_Mo_takeEvents_51 rfl rF_26_114 (gM hp) rfl ?_
        refine Rg.step 55 F_Mo_takeEvents_54 rfl (fun _ => rfl) ?_
        refine Rg.getf 58 F_Mo_takeEvents_55 rfl rF_26_283 (gM hp) rfl ?_
        refine Rg.step 59 F_Mo_takeEvents_58 rfl (fun _ => rfl) ?_
        refine Rg.step 60 F_Mo_takeEvents_59 rfl (fun _ => rfl) ?_
        refine Rg.getf 63 F_Mo_takeEvents_60 rfl rF_26_280 (gM hp) rfl ?_
        refine Rg.mulI 64 F_Mo_takeEvents_63 rfl ?_
        refine Rg.ist 65 F_Mo_takeEvents_64 rfl (gR_triedRow hp) (by decide) (sR_triedRow hp) (by omega) (by decide) ?_
        refine Rg.step 66 F_Mo_takeEvents_65 rfl (fun _ => rfl) ?_
        refine Rg.step 67 F_Mo_takeEvents_66 rfl (fun _ => rfl) ?_
        refine Rg.getf 70 F_Mo_takeEvents_67 rfl rF_26_280 (gM hp) rfl ?_
        refine Rg.step 71 F_Mo_takeEvents_70 rfl (fun _ => rfl) ?_
        refine Rg.addI 72 F_Mo_takeEvents_71 rfl ?_
        refine Rg.put 75 F_Mo_takeEvents_72 rfl rF_26_280 (gM hp) (by decide) (Nat.le_of_ble_eq_true rfl) (Or.inl rfl) rfl (sM_tried hp) ?_
        refine Rg.step 146 F_Mo_takeEvents_75 rfl (fun _ => rfl) ?_
        refine Rg.step 147 F_Mo_takeEvents_146 rfl (fun _ => rfl) ?_
        refine Rg.step 148 F_Mo_takeEvents_147 rfl (fun _ => rfl) ?_
        refine Rg.getf 151 F_Mo_takeEvents_148 rfl rF_26_283 (gM hp) rfl ?_
        refine Rg.step 152 F_Mo_takeEvents_151 rfl (fun _ => rfl) ?_
        refine Rg.addI 153 F_Mo_takeEvents_152 rfl ?_
        refine Rg.put 156 F_Mo_takeEvents_153 rfl rF_26_283 (gM hp) (by decide) (Nat.le_of_ble_eq_true rfl) (Or.inl rfl) rfl (sM_triedRows hp) ?_
        refine Rg.inc 159 F_Mo_takeEvents_156 rfl rfl (by decide) ?_
        refine Rg.step 12 F_Mo_takeEvents_159 rfl (fun _ => rfl) ?_
        exact Rg.weak ht (by simp [lput1, lput2, Value.category, fi0, fi1, fi2, fi3] <;> first | rfl | exact ⟨rfl, rfl⟩) (by simp [lput1, lput2, Value.category, fi0, fi1, fi2, fi3] <;> first | rfl | exact ⟨rfl, rfl⟩)
      · have hN : ¬ ∃ st, evS actions events (n + 1) k (m, R, A, T) = some st := by
          rintro ⟨st, hst⟩
          rw [evS_s, if_pos c1, if_neg c2] at hst
          cases hst
        refine ⟨m, R, A, T, fun st z => absurd ⟨st, z⟩ hN, hA, ?_⟩
        refine Rg.step 13 F_Mo_takeEvents_12 rfl (fun _ => rfl) ?_
        refine Rg.step 14 F_Mo_takeEvents_13 rfl (fun _ => rfl) ?_
        refine Rg.icgeI 162 17 F_Mo_takeEvents_14 rfl rfl (by omega) (by omega) (fun h14 => by omega) (fun _ => ?_)
        refine Rg.step 18 F_Mo_takeEvents_17 rfl (fun _ => rfl) ?_
        refine Rg.getf 21 F_Mo_takeEvents_18 rfl rF_26_175 (gM hp) rfl ?_
        refine Rg.step 22 F_Mo_takeEvents_21 rfl (fun _ => rfl) ?_
        refine Rg.ild 23 F_Mo_takeEvents_22 rfl (gR_events hp) (by omega) (by decide) ?_
        refine Rg.step 24 F_Mo_takeEvents_23 rfl (fun _ => rfl) ?_
        refine Rg.step 25 F_Mo_takeEvents_24 rfl (fun _ => rfl) ?_
        refine Rg.bip 27 F_Mo_takeEvents_25 rfl rfl ?_
        refine Rg.icgeI 78 30 F_Mo_takeEvents_27 rfl rfl (by omega) (by omega) (fun h27 => by omega) (fun _ => ?_)
        refine Rg.step 31 F_Mo_takeEvents_30 rfl (fun _ => rfl) ?_
        refine Rg.step 32 F_Mo_takeEvents_31 rfl (fun _ => rfl) ?_
        refine Rg.getf 35 F_Mo_takeEvents_32 rfl rF_26_218 (gM hp) rfl ?_
        refine Rg.icltI 40 38 F_Mo_takeEvents_35 rfl rfl (by omega) (by omega) (fun h35 => by omega) (fun _ => ?_)
        refine Rg.step 39 F_Mo_takeEvents_38 rfl (fun _ => rfl) ?_
        exact Rg.ret0 F_Mo_takeEvents_39 rfl hN rfl
    · have hb : ∀ i, 0 ≤ i → i < R → 0 ≤ T i ∧ T i < 100 := fun i z1 z2 => by have y1 := hW.2.2.2.1 i z1 z2; dsimp only at y1; omega
      by_cases c2 : events k - 12 < m ∧ ∀ i, 0 ≤ i → i < R → ¬ T i = 2 * (events k - 12) + 1
      · have c3 := c2.1
        have hE : evS actions events (n + 1) k (m, R, A, T) = evS actions events n (k + 1) (m, R + 1, A, up1 T R (2 * (events k - 12) + 1)) := by rw [evS_s, if_neg c1, if_pos c2]
        rw [hE]
        obtain ⟨m1, R1, A1, T1, i1, i2, ht⟩ := ih (k + 1) m (R + 1) A (up1 T R (2 * (events k - 12) + 1)) (by omega) (by omega) (hW.fin ⟨by omega, c2.1⟩ c2.2) hA
        refine ⟨m1, R1, A1, T1, i1, i2, ?_⟩
        refine Rg.step 13 F_Mo_takeEvents_12 rfl (fun _ => rfl) ?_
        refine Rg.step 14 F_Mo_takeEvents_13 rfl (fun _ => rfl) ?_
        refine Rg.icgeI 162 17 F_Mo_takeEvents_14 rfl rfl (by omega) (by omega) (fun h14 => by omega) (fun _ => ?_)
        refine Rg.step 18 F_Mo_takeEvents_17 rfl (fun _ => rfl) ?_
        refine Rg.getf 21 F_Mo_takeEvents_18 rfl rF_26_175 (gM hp) rfl ?_
        refine Rg.step 22 F_Mo_takeEvents_21 rfl (fun _ => rfl) ?_
        refine Rg.ild 23 F_Mo_takeEvents_22 rfl (gR_events hp) (by omega) (by decide) ?_
        refine Rg.step 24 F_Mo_takeEvents_23 rfl (fun _ => rfl) ?_
        refine Rg.step 25 F_Mo_takeEvents_24 rfl (fun _ => rfl) ?_
        refine Rg.bip 27 F_Mo_takeEvents_25 rfl rfl ?_
        refine Rg.icgeI 78 30 F_Mo_takeEvents_27 rfl rfl (by omega) (by omega) (fun _ => ?_) (fun h27 => by omega)
        refine Rg.step 79 F_Mo_takeEvents_78 rfl (fun _ => rfl) ?_
        refine Rg.bip 81 F_Mo_takeEvents_79 rfl rfl ?_
        refine Rg.subI 82 F_Mo_takeEvents_81 rfl ?_
        refine Rg.step 84 F_Mo_takeEvents_82 rfl (fun _ => rfl) ?_
        refine Rg.step 86 F_Mo_takeEvents_84 rfl (fun _ => rfl) ?_
        refine Rg.step 87 F_Mo_takeEvents_86 rfl (fun _ => rfl) ?_
        refine Rg.getf 90 F_Mo_takeEvents_87 rfl rF_26_280 (gM hp) rfl ?_
        refine Rg.icltI 95 93 F_Mo_takeEvents_90 rfl rfl (by omega) (by omega) (fun _ => ?_) (fun h90 => by omega)
        refine Rg.step 96 F_Mo_takeEvents_95 rfl (fun _ => rfl) ?_
        refine Rg.step 98 F_Mo_takeEvents_96 rfl (fun _ => rfl) ?_
        refine Rg.weak (te_in (s := events k - 12) (k := k) (many := many) hp (by omega) hb (by omega) ?_ R.toNat 0 (by omega) (by omega) (fun j z1 z2 => c2.2 j z1 z2)) (by simp [lput1, lput2, Value.category, fi0, fi1, fi2, fi3] <;> first | rfl | exact ⟨rfl, rfl⟩) (by simp [lput1, lput2, Value.category, fi0, fi1, fi2, fi3] <;> first | rfl | exact ⟨rfl, rfl⟩)
        refine Rg.step 132 F_Mo_takeEvents_131 rfl (fun _ => rfl) ?_
        refine Rg.getf 135 F_Mo_takeEvents_132 rfl rF_26_114 (gM hp) rfl ?_
        refine Rg.step 136 F_Mo_takeEvents_135 rfl (fun _ => rfl) ?_
        refine Rg.getf 139 F_Mo_takeEvents_136 rfl rF_26_283 (gM hp) rfl ?_
        refine Rg.step 140 F_Mo_takeEvents_139 rfl (fun _ => rfl) ?_
        refine Rg.step 142 F_Mo_takeEvents_140 rfl (fun _ => rfl) ?_
        refine Rg.mulI 143 F_Mo_takeEvents_142 rfl ?_
        refine Rg.step 144 F_Mo_takeEvents_143 rfl (fun _ => rfl) ?_
        refine Rg.addI 145 F_Mo_takeEvents_144 rfl ?_
        refine Rg.ist 146 F_Mo_takeEvents_145 rfl (gR_triedRow hp) (by decide) (sR_triedRow hp) (by omega) (by decide) ?_
        refine Rg.step 147 F_Mo_takeEvents_146 rfl (fun _ => rfl) ?_
        refine Rg.step 148 F_Mo_takeEvents_147 rfl (fun _ => rfl) ?_
        refine Rg.getf 151 F_Mo_takeEvents_148 rfl rF_26_283 (gM hp) rfl ?_
        refine Rg.step 152 F_Mo_takeEvents_151 rfl (fun _ => rfl) ?_
        refine Rg.addI 153 F_Mo_takeEvents_152 rfl ?_
        refine Rg.put 156 F_Mo_takeEvents_153 rfl rF_26_283 (gM hp) (by decide) (Nat.le_of_ble_eq_true rfl) (Or.inl rfl) rfl (sM_triedRows hp) ?_
        refine Rg.inc 159 F_Mo_takeEvents_156 rfl rfl (by decide) ?_
        refine Rg.step 12 F_Mo_takeEvents_159 rfl (fun _ => rfl) ?_
        exact Rg.weak ht (by simp [lput1, lput2, Value.category, fi0, fi1, fi2, fi3] <;> first | rfl | exact ⟨rfl, rfl⟩) (by simp [lput1, lput2, Value.category, fi0, fi1, fi2, fi3] <;> first | rfl | exact ⟨rfl, rfl⟩)
      · have hN : ¬ ∃ st, evS actions events (n + 1) k (m, R, A, T) = some st := by
          rintro ⟨st, hst⟩
          rw [evS_s, if_neg c1, if_neg c2] at hst
          cases hst
        refine ⟨m, R, A, T, fun st z => absurd ⟨st, z⟩ hN, hA, ?_⟩
        by_cases c3 : events k - 12 < m
        · have c4 : ∃ j, 0 ≤ j ∧ j < R ∧ T j = 2 * (events k - 12) + 1 := Classical.byContradiction (fun z => c2 ⟨c3, fun i z1 z2 z3 => z ⟨i, z1, z2, z3⟩⟩)
          refine Rg.step 13 F_Mo_takeEvents_12 rfl (fun _ => rfl) ?_
          refine Rg.step 14 F_Mo_takeEvents_13 rfl (fun _ => rfl) ?_
          refine Rg.icgeI 162 17 F_Mo_takeEvents_14 rfl rfl (by omega) (by omega) (fun h14 => by omega) (fun _ => ?_)
          refine Rg.step 18 F_Mo_takeEvents_17 rfl (fun _ => rfl) ?_
          refine Rg.getf 21 F_Mo_takeEvents_18 rfl rF_26_175 (gM hp) rfl ?_
          refine Rg.step 22 F_Mo_takeEvents_21 rfl (fun _ => rfl) ?_
          refine Rg.ild 23 F_Mo_takeEvents_22 rfl (gR_events hp) (by omega) (by decide) ?_
          refine Rg.step 24 F_Mo_takeEvents_23 rfl (fun _ => rfl) ?_
          refine Rg.step 25 F_Mo_takeEvents_24 rfl (fun _ => rfl) ?_
          refine Rg.bip 27 F_Mo_takeEvents_25 rfl rfl ?_
          refine Rg.icgeI 78 30 F_Mo_takeEvents_27 rfl rfl (by omega) (by omega) (fun _ => ?_) (fun h27 => by omega)
          refine Rg.step 79 F_Mo_takeEvents_78 rfl (fun _ => rfl) ?_
          refine Rg.bip 81 F_Mo_takeEvents_79 rfl rfl ?_
          refine Rg.subI 82 F_Mo_takeEvents_81 rfl ?_
          refine Rg.step 84 F_Mo_takeEvents_82 rfl (fun _ => rfl) ?_
          refine Rg.step 86 F_Mo_takeEvents_84 rfl (fun _ => rfl) ?_
          refine Rg.step 87 F_Mo_takeEvents_86 rfl (fun _ => rfl) ?_
          refine Rg.getf 90 F_Mo_takeEvents_87 rfl rF_26_280 (gM hp) rfl ?_
          refine Rg.icltI 95 93 F_Mo_takeEvents_90 rfl rfl (by omega) (by omega) (fun _ => ?_) (fun h90 => by omega)
          refine Rg.step 96 F_Mo_takeEvents_95 rfl (fun _ => rfl) ?_
          refine Rg.step 98 F_Mo_takeEvents_96 rfl (fun _ => rfl) ?_
          exact Rg.weak (te_hit (s := events k - 12) (k := k) (many := many) hp (by omega) hb (by omega) hN R.toNat 0 (by omega) (by omega) c4) (by simp [lput1, lput2, Value.category, fi0, fi1, fi2, fi3] <;> first | rfl | exact ⟨rfl, rfl⟩) (by simp [lput1, lput2, Value.category, fi0, fi1, fi2, fi3] <;> first | rfl | exact ⟨rfl, rfl⟩)
        · skip
          refine Rg.step 13 F_Mo_takeEvents_12 rfl (fun _ => rfl) ?_
          refine Rg.step 14 F_Mo_takeEvents_13 rfl (fun _ => rfl) ?_
          refine Rg.icgeI 162 17 F_Mo_takeEvents_14 rfl rfl (by omega) (by omega) (fun h14 => by omega) (fun _ => ?_)
          refine Rg.step 18 F_Mo_takeEvents_17 rfl (fun _ => rfl) ?_
          refine Rg.getf 21 F_Mo_takeEvents_18 rfl rF_26_175 (gM hp) rfl ?_
          refine Rg.step 22 F_Mo_takeEvents_21 rfl (fun _ => rfl) ?_
          refine Rg.ild 23 F_Mo_takeEvents_22 rfl (gR_events hp) (by omega) (by decide) ?_
          refine Rg.step 24 F_Mo_takeEvents_23 rfl (fun _ => rfl) ?_
          refine Rg.step 25 F_Mo_takeEvents_24 rfl (fun _ => rfl) ?_
          refine Rg.bip 27 F_Mo_takeEvents_25 rfl rfl ?_
          refine Rg.icgeI 78 30 F_Mo_takeEvents_27 rfl rfl (by omega) (by omega) (fun _ => ?_) (fun h27 => by omega)
          refine Rg.step 79 F_Mo_takeEvents_78 rfl (fun _ => rfl) ?_
          refine Rg.bip 81 F_Mo_takeEvents_79 rfl rfl ?_
          refine Rg.subI 82 F_Mo_takeEvents_81 rfl ?_
          refine Rg.step 84 F_Mo_takeEvents_82 rfl (fun _ => rfl) ?_
          refine Rg.step 86 F_Mo_takeEvents_84 rfl (fun _ => rfl) ?_
          refine Rg.step 87 F_Mo_takeEvents_86 rfl (fun _ => rfl) ?_
          refine Rg.getf 90 F_Mo_takeEvents_87 rfl rF_26_280 (gM hp) rfl ?_
          refine Rg.icltI 95 93 F_Mo_takeEvents_90 rfl rfl (by omega) (by omega) (fun h90 => by omega) (fun _ => ?_)
          refine Rg.step 94 F_Mo_takeEvents_93 rfl (fun _ => rfl) ?_
          exact Rg.ret0 F_Mo_takeEvents_94 rfl hN rfl
theorem c_Mo_takeEvents {d : Nat} (hp : pre.length = 168) (wA : 0 ≤ actions ∧ actions ≤ 12) (wT : ∀ s, 0 ≤ triedAction s ∧ triedAction s < 12) {many : Int} (hm : 0 ≤ many ∧ many ≤ 6) (hev : ∀ i, 0 ≤ i → i < many → 0 ≤ events i ∧ events i < 15) : ∃ (m1 R1 : Int) (A1 T1 : Int → Int), (∀ st, evS actions events many.toNat 0 (0, 0, triedAction, triedRow) = some st → st = (m1, R1, A1, T1)) ∧ (∀ s, 0 ≤ A1 s ∧ A1 s < 12) ∧ Cg false d m_Mo_takeEvents [.ref 168, .int (iI many)] (MR pre code amountN amountD momentN momentD epsilonN epsilonD firstFacts firstN firstD wishes wants wantN wantD actions needs needTime needOf needHow needN needD changes changeTime changeOf changeHow changeN changeD lastOf lastN lastD steps stepAction startN startD lengthN lengthD rows row tried triedAction triedRows triedRow times unit facts numN numD oldFacts oldN oldD point judged fault faultPoint toldFacts toldN toldD outN outD pointN pointD gone now leastN leastD greatestN greatestD events post) (.inl (some (.int (bP (∃ st, evS actions events many.toNat 0 (0, 0, triedAction, triedRow) = some st))))) (MR pre code amountN amountD momentN momentD epsilonN epsilonD firstFacts firstN firstD wishes wants wantN wantD actions needs needTime needOf needHow needN needD changes changeTime changeOf changeHow changeN changeD lastOf lastN lastD steps stepAction startN startD lengthN lengthD rows row m1 A1 R1 T1 times unit facts numN numD oldFacts oldN oldD point judged fault faultPoint toldFacts toldN toldD outN outD pointN pointD gone now leastN leastD greatestN greatestD events post) := by
  obtain ⟨m1, R1, A1, T1, i1, i2, ht⟩ := te_loop (d := d) (n0 := (MR pre code amountN amountD momentN momentD epsilonN epsilonD firstFacts firstN firstD wishes wants wantN wantD actions needs needTime needOf needHow needN needD changes changeTime changeOf changeHow changeN changeD lastOf lastN lastD steps stepAction startN startD lengthN lengthD rows row tried triedAction triedRows triedRow times unit facts numN numD oldFacts oldN oldD point judged fault faultPoint toldFacts toldN toldD outN outD pointN pointD gone now leastN leastD greatestN greatestD events post).length) (pre := pre) (post := post) (code := code) (amountN := amountN) (amountD := amountD) (momentN := momentN) (momentD := momentD) (epsilonN := epsilonN) (epsilonD := epsilonD) (firstFacts := firstFacts) (firstN := firstN) (firstD := firstD) (wishes := wishes) (wants := wants) (wantN := wantN) (wantD := wantD) (actions := actions) (needs := needs) (needTime := needTime) (needOf := needOf) (needHow := needHow) (needN := needN) (needD := needD) (changes := changes) (changeTime := changeTime) (changeOf := changeOf) (changeHow := changeHow) (changeN := changeN) (changeD := changeD) (lastOf := lastOf) (lastN := lastN) (lastD := lastD) (steps := steps) (stepAction := stepAction) (startN := startN) (startD := startD) (lengthN := lengthN) (lengthD := lengthD) (rows := rows) (row := row) (times := times) (unit := unit) (facts := facts) (numN := numN) (numD := numD) (oldFacts := oldFacts) (oldN := oldN) (oldD := oldD) (point := point) (judged := judged) (fault := fault) (faultPoint := faultPoint) (toldFacts := toldFacts) (toldN := toldN) (toldD := toldD) (outN := outN) (outD := outD) (pointN := pointN) (pointD := pointD) (gone := gone) (now := now) (leastN := leastN) (leastD := leastD) (greatestN := greatestN) (greatestD := greatestD) (events := events) hp wA hm hev many.toNat 0 0 0 triedAction triedRow (by omega) (by omega) (EvW0 _ _ _) wT
  refine ⟨m1, R1, A1, T1, i1, i2, ?_⟩
  refine Cg.of (Nat.le_of_ble_eq_true rfl) ?_
  change Rg _ _ _ _ 0 [(0, .ref 168), (1, .int (iI many))] [] _ _ _
  refine Rg.step 1 F_Mo_takeEvents_0 rfl (fun _ => rfl) ?_
  refine Rg.step 2 F_Mo_takeEvents_1 rfl (fun _ => rfl) ?_
  refine Rg.put 5 F_Mo_takeEvents_2 rfl rF_26_280 (gM hp) (by decide) (Nat.le_of_ble_eq_true rfl) (Or.inl rfl) rfl (sM_tried hp) ?_
  refine Rg.step 6 F_Mo_takeEvents_5 rfl (fun _ => rfl) ?_
  refine Rg.step 7 F_Mo_takeEvents_6 rfl (fun _ => rfl) ?_
  refine Rg.put 10 F_Mo_takeEvents_7 rfl rF_26_283 (gM hp) (by decide) (Nat.le_of_ble_eq_true rfl) (Or.inl rfl) rfl (sM_triedRows hp) ?_
  refine Rg.step 11 F_Mo_takeEvents_10 rfl (fun _ => rfl) ?_
  refine Rg.step 12 F_Mo_takeEvents_11 rfl (fun _ => rfl) ?_
  exact Rg.weak ht (by simp [lput1, lput2, Value.category, fi0, fi1, fi2, fi3] <;> first | rfl | exact ⟨rfl, rfl⟩) (by simp [lput1, lput2, Value.category, fi0, fi1, fi2, fi3] <;> first | rfl | exact ⟨rfl, rfl⟩)
theorem fd_end {d n0 : Nat} (hp : pre.length = 168) (hw : WT epsilonN epsilonD wishes wants wantN wantD actions needs needTime needOf needHow needN needD changes changeTime changeOf changeHow changeN changeD lastOf lastN lastD firstN firstD) {many : Nat} (hm : many ≤ 6) (ev : Int → Int) (facts0 : Int → Prop) (numN0 : Int → Int) (numD0 : Int → Int) (gone0 : Int → Prop) (outN0 : Int) (outD0 : Int) (point0 : Int) (leastN0 : Int → Int) (leastD0 : Int → Int) (greatestN0 : Int → Int) (greatestD0 : Int → Int) (oldFacts0 : Int → Prop) (oldN0 : Int → Int) (oldD0 : Int → Int) (unit0 : Int) (times0 : Int → Int) (tried0 : Int) (triedRows0 : Int) (triedAction0 : Int → Int) (triedRow0 : Int → Int) (events0 : Int → Int) : (∀ s, 0 ≤ triedAction0 s ∧ triedAction0 s < 12) → (∀ i, 0 ≤ i → i < (many : Int) → events0 i = ev i) → (∀ i, 0 ≤ i → i < (many : Int) → 0 ≤ ev i ∧ ev i < 15) → ((GoodE actions (fun S a t => fit needs needTime needOf needHow needN needD S.1 S.2.1 S.2.2 a t) (fun S a t => chAll changeTime changeOf changeHow changeN changeD t (changes a).toNat (6 * a) S) (fun S a => (lbN lastOf lastN lastD epsilonN epsilonD S.2.1 S.2.2 a, lbD lastOf lastN lastD epsilonN epsilonD S.2.1 S.2.2 a, gbN lastOf lastN lastD S.2.1 S.2.2 a, gbD lastOf lastN lastD S.2.1 S.2.2 a)) (fun S => goal wishes wants wantN wantD S.1 S.2.1 S.2.2) (fun a t b u => interf needs needTime needHow needOf lastOf changes changeTime changeHow changeOf a t b u) epsilonN epsilonD (firstFacts, firstN, firstD) many) ev ∧ ∃ (facts1 : Int → Prop) (numN1 : Int → Int) (numD1 : Int → Int) (gone1 : Int → Prop) (outN1 : Int) (outD1 : Int) (point1 : Int) (leastN1 : Int → Int) (leastD1 : Int → Int) (greatestN1 : Int → Int) (greatestD1 : Int → Int) (oldFacts1 : Int → Prop) (oldN1 : Int → Int) (oldD1 : Int → Int) (unit1 : Int) (times1 : Int → Int) (tried1 : Int) (triedRows1 : Int) (triedAction1 : Int → Int) (triedRow1 : Int → Int) (events1 : Int → Int), (∀ s, 0 ≤ triedAction1 s ∧ triedAction1 s < 12) ∧ (∃ A T pt S1, evS actions ev many 0 (0, 0, fun _ => 0, fun _ => 0) = some (tried1, triedRows1, A, T) ∧ triedRows1 = 2 * tried1 ∧ (0 ≤ tried1 ∧ tried1 ≤ 6) ∧ (∀ s, 0 ≤ s → s < tried1 → triedAction1 s = A s ∧ 0 ≤ A s ∧ A s < actions) ∧ (∀ i, 0 ≤ i → i < triedRows1 → triedRow1 i = T i ∧ 0 ≤ T i ∧ T i < 2 * tried1) ∧ (∀ i j, 0 ≤ i → i < j → j < triedRows1 → ¬ T i = T j) ∧ ArrA tried1 triedRows1 T A (fun S a t => fit needs needTime needOf needHow needN needD S.1 S.2.1 S.2.2 a t) (fun S a t => chAll changeTime changeOf changeHow changeN changeD t (changes a).toNat (6 * a) S) (fun S a => (lbN lastOf lastN lastD epsilonN epsilonD S.2.1 S.2.2 a, lbD lastOf lastN lastD epsilonN epsilonD S.2.1 S.2.2 a, gbN lastOf lastN lastD S.2.1 S.2.2 a, gbD lastOf lastN lastD S.2.1 S.2.2 a)) (fun S => goal wishes wants wantN wantD S.1 S.2.1 S.2.2) (fun a t b u => interf needs needTime needHow needOf lastOf changes changeTime changeHow changeOf a t b u) epsilonN epsilonD (firstFacts, firstN, firstD) 0 pt S1 unit1 times1 ∧ (0 < unit1 ∧ unit1 ≤ 100000) ∧ (∀ p, 0 ≤ p → p < 2 * tried1 → 0 ≤ times1 p ∧ times1 p ≤ 24000000000) ∧ ∀ s, 0 ≤ s → s < tried1 → times1 (2 * s) < times1 (2 * s + 1)) ∧ Rg false (d + 7) m_Mo_finds n0 13 [(2, .int (iI (many : Int))), (1, .int (iI (many : Int))), (0, .ref 168)] [] (MR pre code amountN amountD momentN momentD epsilonN epsilonD firstFacts firstN firstD wishes wants wantN wantD actions needs needTime needOf needHow needN needD changes changeTime changeOf changeHow changeN changeD lastOf lastN lastD steps stepAction startN startD lengthN lengthD rows row tried0 triedAction0 triedRows0 triedRow0 times0 unit0 facts0 numN0 numD0 oldFacts0 oldN0 oldD0 point0 judged fault faultPoint toldFacts toldN toldD outN0 outD0 pointN pointD gone0 now leastN0 leastD0 greatestN0 greatestD0 events0 post) (.inl (some (.int (bP True)))) (MR pre code amountN amountD momentN momentD epsilonN epsilonD firstFacts firstN firstD wishes wants wantN wantD actions needs needTime needOf needHow needN needD changes changeTime changeOf changeHow changeN changeD lastOf lastN lastD steps stepAction startN startD lengthN lengthD rows row tried1 triedAction1 triedRows1 triedRow1 times1 unit1 facts1 numN1 numD1 oldFacts1 oldN1 oldD1 point1 judged fault faultPoint toldFacts toldN toldD outN1 outD1 pointN pointD gone1 now leastN1 leastD1 greatestN1 greatestD1 events1 post)) ∨ (¬ (GoodE actions (fun S a t => fit needs needTime needOf needHow needN needD S.1 S.2.1 S.2.2 a t) (fun S a t => chAll changeTime changeOf changeHow changeN changeD t (changes a).toNat (6 * a) S) (fun S a => (lbN lastOf lastN lastD epsilonN epsilonD S.2.1 S.2.2 a, lbD lastOf lastN lastD epsilonN epsilonD S.2.1 S.2.2 a, gbN lastOf lastN lastD S.2.1 S.2.2 a, gbD lastOf lastN lastD S.2.1 S.2.2 a)) (fun S => goal wishes wants wantN wantD S.1 S.2.1 S.2.2) (fun a t b u => interf needs needTime needHow needOf lastOf changes changeTime changeHow changeOf a t b u) epsilonN epsilonD (firstFacts, firstN, firstD) many) ev ∧ ∃ (facts1 : Int → Prop) (numN1 : Int → Int) (numD1 : Int → Int) (gone1 : Int → Prop) (outN1 : Int) (outD1 : Int) (point1 : Int) (leastN1 : Int → Int) (leastD1 : Int → Int) (greatestN1 : Int → Int) (greatestD1 : Int → Int) (oldFacts1 : Int → Prop) (oldN1 : Int → Int) (oldD1 : Int → Int) (unit1 : Int) (times1 : Int → Int) (tried1 : Int) (triedRows1 : Int) (triedAction1 : Int → Int) (triedRow1 : Int → Int) (events1 : Int → Int), (∀ s, 0 ≤ triedAction1 s ∧ triedAction1 s < 12) ∧ (∀ i, 0 ≤ i → i < (many : Int) → events1 i = ev i) ∧ ∀ o mem1, Rg false (d + 7) m_Mo_finds n0 13 [(2, .int (iI ((many : Int) + -1))), (1, .int (iI (many : Int))), (0, .ref 168)] [] (MR pre code amountN amountD momentN momentD epsilonN epsilonD firstFacts firstN firstD wishes wants wantN wantD actions needs needTime needOf needHow needN needD changes changeTime changeOf changeHow changeN changeD lastOf lastN lastD steps stepAction startN startD lengthN lengthD rows row tried1 triedAction1 triedRows1 triedRow1 times1 unit1 facts1 numN1 numD1 oldFacts1 oldN1 oldD1 point1 judged fault faultPoint toldFacts toldN toldD outN1 outD1 pointN pointD gone1 now leastN1 leastD1 greatestN1 greatestD1 events1 post) o mem1 → Rg false (d + 7) m_Mo_finds n0 13 [(2, .int (iI (many : Int))), (1, .int (iI (many : Int))), (0, .ref 168)] [] (MR pre code amountN amountD momentN momentD epsilonN epsilonD firstFacts firstN firstD wishes wants wantN wantD actions needs needTime needOf needHow needN needD changes changeTime changeOf changeHow changeN changeD lastOf lastN lastD steps stepAction startN startD lengthN lengthD rows row tried0 triedAction0 triedRows0 triedRow0 times0 unit0 facts0 numN0 numD0 oldFacts0 oldN0 oldD0 point0 judged fault faultPoint toldFacts toldN toldD outN0 outD0 pointN pointD gone0 now leastN0 leastD0 greatestN0 greatestD0 events0 post) o mem1) := by
  intro wT0 hag hin
  obtain ⟨-, -, -, -, wA, -, -, -, -, -, -, -, -, -, -, -, -, -, -, -, -⟩ := id hw
  obtain ⟨m1, R1, A1, T1, i1, i2, hte⟩ := c_Mo_takeEvents (d := d + 6) (pre := pre) (post := post) (code := code) (amountN := amountN) (amountD := amountD) (momentN := momentN) (momentD := momentD) (epsilonN := epsilonN) (epsilonD := epsilonD) (firstFacts := firstFacts) (firstN := firstN) (firstD := firstD) (wishes := wishes) (wants := wants) (wantN := wantN) (wantD := wantD) (actions := actions) (needs := needs) (needTime := needTime) (needOf := needOf) (needHow := needHow) (needN := needN) (needD := needD) (changes := changes) (changeTime := changeTime) (changeOf := changeOf) (changeHow := changeHow) (changeN := changeN) (changeD := changeD) (lastOf := lastOf) (lastN := lastN) (lastD := lastD) (steps := steps) (stepAction := stepAction) (startN := startN) (startD := startD) (lengthN := lengthN) (lengthD := lengthD) (rows := rows) (row := row) (tried := tried0) (triedAction := triedAction0) (triedRows := triedRows0) (triedRow := triedRow0) (times := times0) (unit := unit0) (facts := facts0) (numN := numN0) (numD := numD0) (oldFacts := oldFacts0) (oldN := oldN0) (oldD := oldD0) (point := point0) (judged := judged) (fault := fault) (faultPoint := faultPoint) (toldFacts := toldFacts) (toldN := toldN) (toldD := toldD) (outN := outN0) (outD := outD0) (pointN := pointN) (pointD := pointD) (gone := gone0) (now := now) (leastN := leastN0) (leastD := leastD0) (greatestN := greatestN0) (greatestD := greatestD0) (events := events0) hp wA wT0 (many := (many : Int)) (by omega) (fun i z1 z2 => by rw [hag i z1 z2]; exact hin i z1 z2)
  rw [Int.toNat_natCast] at i1 hte
  rcases evS_E (acts := actions) (ev := ev) (ev1 := events0) many 0 (0, 0, triedAction0, triedRow0) (0, 0, fun _ => 0, fun _ => 0) (fun i z1 z2 => hag i z1 (by omega)) ⟨rfl, rfl, fun s z1 z2 => absurd z2 (by show ¬ s < 0; omega), fun s z1 z2 => absurd z2 (by show ¬ s < 0; omega)⟩ with ⟨a1, a2⟩ | ⟨x, y, a1, a2, a3⟩
  · have hN : ¬ ∃ st, evS actions events0 many 0 (0, 0, triedAction0, triedRow0) = some st := by
      rintro ⟨st, hst⟩
      rw [a1] at hst
      cases hst
    refine Or.inr ⟨fun ⟨m, R, A, T, pt, S1, u, t, z, _⟩ => (by rw [a2] at z; cases z), facts0, numN0, numD0, gone0, outN0, outD0, point0, leastN0, leastD0, greatestN0, greatestD0, oldFacts0, oldN0, oldD0, unit0, times0, m1, R1, A1, T1, events0, i2, hag, fun o mem1 hg => ?_⟩
    refine Rg.step 14 F_Mo_finds_13 rfl (fun _ => rfl) ?_
    refine Rg.ifltI 113 17 F_Mo_finds_14 rfl rfl (by omega) (fun h14 => by omega) (fun _ => ?_)
    refine Rg.step 18 F_Mo_finds_17 rfl (fun _ => rfl) ?_
    refine Rg.step 19 F_Mo_finds_18 rfl (fun _ => rfl) ?_
    refine Rg.icneI 58 22 F_Mo_finds_19 rfl rfl (by omega) (by omega) (fun h19 => by omega) (fun _ => ?_)
    refine Rg.step 23 F_Mo_finds_22 rfl (fun _ => rfl) ?_
    refine Rg.step 24 F_Mo_finds_23 rfl (fun _ => rfl) ?_
    refine Rg.call 27 F_Mo_finds_24 rfl (one_V rM_26_391 (by decide) (by simp) rfl rfl (gM hp) rfl) (Nat.le_of_ble_eq_true rfl) hte ?_
    refine Rg.ifeqP 52 30 F_Mo_finds_27 rfl rfl (fun _ => ?_) (fun h27 => absurd h27 hN)
    refine Rg.inc 55 F_Mo_finds_52 rfl rfl (by decide) ?_
    refine Rg.step 13 F_Mo_finds_55 rfl (fun _ => rfl) ?_
    exact Rg.weak hg (by simp [lput1, lput2, Value.category, fi0, fi1, fi2, fi3] <;> first | rfl | exact ⟨rfl, rfl⟩) (by simp [lput1, lput2, Value.category, fi0, fi1, fi2, fi3] <;> first | rfl | exact ⟨rfl, rfl⟩)
  · have ex := i1 x a1
    subst ex
    obtain ⟨m, R, A, T⟩ := y
    obtain ⟨b1, b2, b3, b4⟩ := a3
    dsimp only at b1 b2 b3 b4
    subst b1 b2
    have hY : ∃ st, evS actions events0 many 0 (0, 0, triedAction0, triedRow0) = some st := ⟨_, a1⟩
    have hW := evS_W many 0 _ _ (fun i z1 z2 => (hin i z1 (by omega)).1) (EvW0 _ _ _) a2
    obtain ⟨w1, w2, w3, w4, w5⟩ := hW
    dsimp only at w1 w2 w3 w4 w5
    by_cases h2 : R1 = 2 * m1
    · have hfull : ∀ p, 0 ≤ p → p < 2 * m1 → ∃ j, 0 ≤ j ∧ j < R1 ∧ T1 j = p := fun p z1 z2 => by
        obtain ⟨j, j1, j2, j3⟩ := inj_full (n := R1.toNat) (T := T) (fun i y1 y2 => by have := w4 i y1 (by omega); omega) (fun i j y1 y2 y3 => w5 i j y1 y2 (by omega)) p z1 (by omega)
        exact ⟨j, j1, by omega, by rw [b4 j j1 (by omega)]; exact j3⟩
      obtain ⟨why, pt, F1, N1, D1, G1, x1, y1, p1, lN1, lD1, gN1, gD1, F2, N2, D2, u1, t1, hAr, wN1, hwy, hp1, h00, hca⟩ := c_Mo_arranged (d := d) (pre := pre) (post := post) (code := code) (amountN := amountN) (amountD := amountD) (momentN := momentN) (momentD := momentD) (epsilonN := epsilonN) (epsilonD := epsilonD) (firstFacts := firstFacts) (firstN := firstN) (firstD := firstD) (wishes := wishes) (wants := wants) (wantN := wantN) (wantD := wantD) (actions := actions) (needs := needs) (needTime := needTime) (needOf := needOf) (needHow := needHow) (needN := needN) (needD := needD) (changes := changes) (changeTime := changeTime) (changeOf := changeOf) (changeHow := changeHow) (changeN := changeN) (changeD := changeD) (lastOf := lastOf) (lastN := lastN) (lastD := lastD) (steps := steps) (stepAction := stepAction) (startN := startN) (startD := startD) (lengthN := lengthN) (lengthD := lengthD) (rows := rows) (row := row) (tried := m1) (triedAction := A1) (triedRows := R1) (triedRow := T1) (times := times0) (unit := unit0) (facts := facts0) (numN := numN0) (numD := numD0) (oldFacts := oldFacts0) (oldN := oldN0) (oldD := oldD0) (point := point0) (judged := judged) (fault := fault) (faultPoint := faultPoint) (toldFacts := toldFacts) (toldN := toldN) (toldD := toldD) (outN := outN0) (outD := outD0) (pointN := pointN) (pointD := pointD) (gone := gone0) (now := now) (leastN := leastN0) (leastD := leastD0) (greatestN := greatestN0) (greatestD := greatestD0) (events := events0) hp hw i2 (by omega) (fun s z1 z2 => by rw [b3 s z1 z2]; exact w3 s z1 z2) (by omega) (fun i z1 z2 => by rw [b4 i z1 z2]; exact w4 i z1 z2) hfull h2
      have hAr2 := ArrA_c (FA := (fun S a t => fit needs needTime needOf needHow needN needD S.1 S.2.1 S.2.2 a t)) (CA := (fun S a t => chAll changeTime changeOf changeHow changeN changeD t (changes a).toNat (6 * a) S)) (BA := (fun S a => (lbN lastOf lastN lastD epsilonN epsilonD S.2.1 S.2.2 a, lbD lastOf lastN lastD epsilonN epsilonD S.2.1 S.2.2 a, gbN lastOf lastN lastD S.2.1 S.2.2 a, gbD lastOf lastN lastD S.2.1 S.2.2 a))) (GO := (fun S => goal wishes wants wantN wantD S.1 S.2.1 S.2.2)) (IA := (fun a t b u => interf needs needTime needHow needOf lastOf changes changeTime changeHow changeOf a t b u)) (row1 := T1) (A1 := A1) (row := T) (A := A) (by omega) (fun i z1 z2 => ⟨b4 i z1 z2, w4 i z1 z2⟩) b3 hAr
      by_cases h0 : why = 0
      · subst h0
        obtain ⟨k1, k2, k3⟩ := h00 rfl
        refine Or.inl ⟨⟨m1, R1, A, T, pt, (F1, N1, D1), u1, t1, a2, h2, hAr2⟩, F1, N1, D1, G1, x1, y1, p1, lN1, lD1, gN1, gD1, F2, N2, D2, u1, t1, m1, R1, A1, T1, events0, i2, ⟨A, T, pt, (F1, N1, D1), a2, h2, by omega, fun s z1 z2 => ⟨b3 s z1 z2, w3 s z1 z2⟩, fun i z1 z2 => ⟨b4 i z1 z2, w4 i z1 z2⟩, w5, hAr2, k1, k2, k3⟩, ?_⟩
        refine Rg.step 14 F_Mo_finds_13 rfl (fun _ => rfl) ?_
        refine Rg.ifltI 113 17 F_Mo_finds_14 rfl rfl (by omega) (fun h14 => by omega) (fun _ => ?_)
        refine Rg.step 18 F_Mo_finds_17 rfl (fun _ => rfl) ?_
        refine Rg.step 19 F_Mo_finds_18 rfl (fun _ => rfl) ?_
        refine Rg.icneI 58 22 F_Mo_finds_19 rfl rfl (by omega) (by omega) (fun h19 => by omega) (fun _ => ?_)
        refine Rg.step 23 F_Mo_finds_22 rfl (fun _ => rfl) ?_
        refine Rg.step 24 F_Mo_finds_23 rfl (fun _ => rfl) ?_
        refine Rg.call 27 F_Mo_finds_24 rfl (one_V rM_26_391 (by decide) (by simp) rfl rfl (gM hp) rfl) (Nat.le_of_ble_eq_true rfl) hte ?_
        refine Rg.ifeqP 52 30 F_Mo_finds_27 rfl rfl (fun h27 => absurd hY h27) (fun _ => ?_)
        refine Rg.step 31 F_Mo_finds_30 rfl (fun _ => rfl) ?_
        refine Rg.getf 34 F_Mo_finds_31 rfl rF_26_283 (gM hp) rfl ?_
        refine Rg.step 35 F_Mo_finds_34 rfl (fun _ => rfl) ?_
        refine Rg.step 36 F_Mo_finds_35 rfl (fun _ => rfl) ?_
        refine Rg.getf 39 F_Mo_finds_36 rfl rF_26_280 (gM hp) rfl ?_
        refine Rg.mulI 40 F_Mo_finds_39 rfl ?_
        refine Rg.icneI 52 43 F_Mo_finds_40 rfl rfl (by omega) (by omega) (fun h40 => by omega) (fun _ => ?_)
        refine Rg.step 44 F_Mo_finds_43 rfl (fun _ => rfl) ?_
        refine Rg.call 47 F_Mo_finds_44 rfl (one_V rM_26_385 (by decide) (by simp) rfl rfl (gM hp) rfl) (Nat.le_of_ble_eq_true rfl) hca ?_
        refine Rg.ifneI 52 50 F_Mo_finds_47 rfl rfl (by omega) (fun h47 => by omega) (fun _ => ?_)
        refine Rg.step 51 F_Mo_finds_50 rfl (fun _ => rfl) ?_
        exact Rg.ret1 F_Mo_finds_51 rfl trivial rfl
      · refine Or.inr ⟨fun ⟨m, R, A', T', pt', S1, u, t, z, _, z3⟩ => ?_, F1, N1, D1, G1, x1, y1, p1, lN1, lD1, gN1, gD1, F2, N2, D2, u1, t1, m1, R1, A1, T1, events0, i2, hag, fun o mem1 hg => ?_⟩
        · rw [a2] at z
          cases z
          exact h0 (ArrR_det hAr2 z3).1
        · skip
          refine Rg.step 14 F_Mo_finds_13 rfl (fun _ => rfl) ?_
          refine Rg.ifltI 113 17 F_Mo_finds_14 rfl rfl (by omega) (fun h14 => by omega) (fun _ => ?_)
          refine Rg.step 18 F_Mo_finds_17 rfl (fun _ => rfl) ?_
          refine Rg.step 19 F_Mo_finds_18 rfl (fun _ => rfl) ?_
          refine Rg.icneI 58 22 F_Mo_finds_19 rfl rfl (by omega) (by omega) (fun h19 => by omega) (fun _ => ?_)
          refine Rg.step 23 F_Mo_finds_22 rfl (fun _ => rfl) ?_
          refine Rg.step 24 F_Mo_finds_23 rfl (fun _ => rfl) ?_
          refine Rg.call 27 F_Mo_finds_24 rfl (one_V rM_26_391 (by decide) (by simp) rfl rfl (gM hp) rfl) (Nat.le_of_ble_eq_true rfl) hte ?_
          refine Rg.ifeqP 52 30 F_Mo_finds_27 rfl rfl (fun h27 => absurd hY h27) (fun _ => ?_)
          refine Rg.step 31 F_Mo_finds_30 rfl (fun _ => rfl) ?_
          refine Rg.getf 34 F_Mo_finds_31 rfl rF_26_283 (gM hp) rfl ?_
          refine Rg.step 35 F_Mo_finds_34 rfl (fun _ => rfl) ?_
          refine Rg.step 36 F_Mo_finds_35 rfl (fun _ => rfl) ?_
          refine Rg.getf 39 F_Mo_finds_36 rfl rF_26_280 (gM hp) rfl ?_
          refine Rg.mulI 40 F_Mo_finds_39 rfl ?_
          refine Rg.icneI 52 43 F_Mo_finds_40 rfl rfl (by omega) (by omega) (fun h40 => by omega) (fun _ => ?_)
          refine Rg.step 44 F_Mo_finds_43 rfl (fun _ => rfl) ?_
          refine Rg.call 47 F_Mo_finds_44 rfl (one_V rM_26_385 (by decide) (by simp) rfl rfl (gM hp) rfl) (Nat.le_of_ble_eq_true rfl) hca ?_
          refine Rg.ifneI 52 50 F_Mo_finds_47 rfl rfl (by omega) (fun _ => ?_) (fun h47 => by omega)
          refine Rg.inc 55 F_Mo_finds_52 rfl rfl (by decide) ?_
          refine Rg.step 13 F_Mo_finds_55 rfl (fun _ => rfl) ?_
          exact Rg.weak hg (by simp [lput1, lput2, Value.category, fi0, fi1, fi2, fi3] <;> first | rfl | exact ⟨rfl, rfl⟩) (by simp [lput1, lput2, Value.category, fi0, fi1, fi2, fi3] <;> first | rfl | exact ⟨rfl, rfl⟩)
    · refine Or.inr ⟨fun ⟨m, R, A', T', pt', S1, u, t, z, z2, _⟩ => ?_, facts0, numN0, numD0, gone0, outN0, outD0, point0, leastN0, leastD0, greatestN0, greatestD0, oldFacts0, oldN0, oldD0, unit0, times0, m1, R1, A1, T1, events0, i2, hag, fun o mem1 hg => ?_⟩
      · rw [a2] at z
        cases z
        exact h2 z2
      · skip
        refine Rg.step 14 F_Mo_finds_13 rfl (fun _ => rfl) ?_
        refine Rg.ifltI 113 17 F_Mo_finds_14 rfl rfl (by omega) (fun h14 => by omega) (fun _ => ?_)
        refine Rg.step 18 F_Mo_finds_17 rfl (fun _ => rfl) ?_
        refine Rg.step 19 F_Mo_finds_18 rfl (fun _ => rfl) ?_
        refine Rg.icneI 58 22 F_Mo_finds_19 rfl rfl (by omega) (by omega) (fun h19 => by omega) (fun _ => ?_)
        refine Rg.step 23 F_Mo_finds_22 rfl (fun _ => rfl) ?_
        refine Rg.step 24 F_Mo_finds_23 rfl (fun _ => rfl) ?_
        refine Rg.call 27 F_Mo_finds_24 rfl (one_V rM_26_391 (by decide) (by simp) rfl rfl (gM hp) rfl) (Nat.le_of_ble_eq_true rfl) hte ?_
        refine Rg.ifeqP 52 30 F_Mo_finds_27 rfl rfl (fun h27 => absurd hY h27) (fun _ => ?_)
        refine Rg.step 31 F_Mo_finds_30 rfl (fun _ => rfl) ?_
        refine Rg.getf 34 F_Mo_finds_31 rfl rF_26_283 (gM hp) rfl ?_
        refine Rg.step 35 F_Mo_finds_34 rfl (fun _ => rfl) ?_
        refine Rg.step 36 F_Mo_finds_35 rfl (fun _ => rfl) ?_
        refine Rg.getf 39 F_Mo_finds_36 rfl rF_26_280 (gM hp) rfl ?_
        refine Rg.mulI 40 F_Mo_finds_39 rfl ?_
        refine Rg.icneI 52 43 F_Mo_finds_40 rfl rfl (by omega) (by omega) (fun _ => ?_) (fun h40 => by omega)
        refine Rg.inc 55 F_Mo_finds_52 rfl rfl (by decide) ?_
        refine Rg.step 13 F_Mo_finds_55 rfl (fun _ => rfl) ?_
        exact Rg.weak hg (by simp [lput1, lput2, Value.category, fi0, fi1, fi2, fi3] <;> first | rfl | exact ⟨rfl, rfl⟩) (by simp [lput1, lput2, Value.category, fi0, fi1, fi2, fi3] <;> first | rfl | exact ⟨rfl, rfl⟩)
theorem fd_at {d n0 : Nat} (hp : pre.length = 168) (hw : WT epsilonN epsilonD wishes wants wantN wantD actions needs needTime needOf needHow needN needD changes changeTime changeOf changeHow changeN changeD lastOf lastN lastD firstN firstD) {many : Nat} (hm : many ≤ 6) : ∀ (n : Nat) (a : Int) (ev : Int → Int) (facts0 : Int → Prop) (numN0 : Int → Int) (numD0 : Int → Int) (gone0 : Int → Prop) (outN0 : Int) (outD0 : Int) (point0 : Int) (leastN0 : Int → Int) (leastD0 : Int → Int) (greatestN0 : Int → Int) (greatestD0 : Int → Int) (oldFacts0 : Int → Prop) (oldN0 : Int → Int) (oldD0 : Int → Int) (unit0 : Int) (times0 : Int → Int) (tried0 : Int) (triedRows0 : Int) (triedAction0 : Int → Int) (triedRow0 : Int → Int) (events0 : Int → Int), a + n = many → 0 ≤ a → (n ≠ 0 → events0 a = -1) → (∀ s, 0 ≤ triedAction0 s ∧ triedAction0 s < 12) → (∀ i, 0 ≤ i → i < a → events0 i = ev i) → (∀ i, 0 ≤ i → i < a → 0 ≤ ev i ∧ ev i < 15) → (∃ ev', findE (GoodE actions (fun S a t => fit needs needTime needOf needHow needN needD S.1 S.2.1 S.2.2 a t) (fun S a t => chAll changeTime changeOf changeHow changeN changeD t (changes a).toNat (6 * a) S) (fun S a => (lbN lastOf lastN lastD epsilonN epsilonD S.2.1 S.2.2 a, lbD lastOf lastN lastD epsilonN epsilonD S.2.1 S.2.2 a, gbN lastOf lastN lastD S.2.1 S.2.2 a, gbD lastOf lastN lastD S.2.1 S.2.2 a)) (fun S => goal wishes wants wantN wantD S.1 S.2.1 S.2.2) (fun a t b u => interf needs needTime needHow needOf lastOf changes changeTime changeHow changeOf a t b u) epsilonN epsilonD (firstFacts, firstN, firstD) many) n a ev = some ev' ∧ ∃ (facts1 : Int → Prop) (numN1 : Int → Int) (numD1 : Int → Int) (gone1 : Int → Prop) (outN1 : Int) (outD1 : Int) (point1 : Int) (leastN1 : Int → Int) (leastD1 : Int → Int) (greatestN1 : Int → Int) (greatestD1 : Int → Int) (oldFacts1 : Int → Prop) (oldN1 : Int → Int) (oldD1 : Int → Int) (unit1 : Int) (times1 : Int → Int) (tried1 : Int) (triedRows1 : Int) (triedAction1 : Int → Int) (triedRow1 : Int → Int) (events1 : Int → Int), (∀ s, 0 ≤ triedAction1 s ∧ triedAction1 s < 12) ∧ (∃ A T pt S1, evS actions ev' many 0 (0, 0, fun _ => 0, fun _ => 0) = some (tried1, triedRows1, A, T) ∧ triedRows1 = 2 * tried1 ∧ (0 ≤ tried1 ∧ tried1 ≤ 6) ∧ (∀ s, 0 ≤ s → s < tried1 → triedAction1 s = A s ∧ 0 ≤ A s ∧ A s < actions) ∧ (∀ i, 0 ≤ i → i < triedRows1 → triedRow1 i = T i ∧ 0 ≤ T i ∧ T i < 2 * tried1) ∧ (∀ i j, 0 ≤ i → i < j → j < triedRows1 → ¬ T i = T j) ∧ ArrA tried1 triedRows1 T A (fun S a t => fit needs needTime needOf needHow needN needD S.1 S.2.1 S.2.2 a t) (fun S a t => chAll changeTime changeOf changeHow changeN changeD t (changes a).toNat (6 * a) S) (fun S a => (lbN lastOf lastN lastD epsilonN epsilonD S.2.1 S.2.2 a, lbD lastOf lastN lastD epsilonN epsilonD S.2.1 S.2.2 a, gbN lastOf lastN lastD S.2.1 S.2.2 a, gbD lastOf lastN lastD S.2.1 S.2.2 a)) (fun S => goal wishes wants wantN wantD S.1 S.2.1 S.2.2) (fun a t b u => interf needs needTime needHow needOf lastOf changes changeTime changeHow changeOf a t b u) epsilonN epsilonD (firstFacts, firstN, firstD) 0 pt S1 unit1 times1 ∧ (0 < unit1 ∧ unit1 ≤ 100000) ∧ (∀ p, 0 ≤ p → p < 2 * tried1 → 0 ≤ times1 p ∧ times1 p ≤ 24000000000) ∧ ∀ s, 0 ≤ s → s < tried1 → times1 (2 * s) < times1 (2 * s + 1)) ∧ Rg false (d + 7) m_Mo_finds n0 13 [(2, .int (iI a)), (1, .int (iI (many : Int))), (0, .ref 168)] [] (MR pre code amountN amountD momentN momentD epsilonN epsilonD firstFacts firstN firstD wishes wants wantN wantD actions needs needTime needOf needHow needN needD changes changeTime changeOf changeHow changeN changeD lastOf lastN lastD steps stepAction startN startD lengthN lengthD rows row tried0 triedAction0 triedRows0 triedRow0 times0 unit0 facts0 numN0 numD0 oldFacts0 oldN0 oldD0 point0 judged fault faultPoint toldFacts toldN toldD outN0 outD0 pointN pointD gone0 now leastN0 leastD0 greatestN0 greatestD0 events0 post) (.inl (some (.int (bP True)))) (MR pre code amountN amountD momentN momentD epsilonN epsilonD firstFacts firstN firstD wishes wants wantN wantD actions needs needTime needOf needHow needN needD changes changeTime changeOf changeHow changeN changeD lastOf lastN lastD steps stepAction startN startD lengthN lengthD rows row tried1 triedAction1 triedRows1 triedRow1 times1 unit1 facts1 numN1 numD1 oldFacts1 oldN1 oldD1 point1 judged fault faultPoint toldFacts toldN toldD outN1 outD1 pointN pointD gone1 now leastN1 leastD1 greatestN1 greatestD1 events1 post)) ∨ (findE (GoodE actions (fun S a t => fit needs needTime needOf needHow needN needD S.1 S.2.1 S.2.2 a t) (fun S a t => chAll changeTime changeOf changeHow changeN changeD t (changes a).toNat (6 * a) S) (fun S a => (lbN lastOf lastN lastD epsilonN epsilonD S.2.1 S.2.2 a, lbD lastOf lastN lastD epsilonN epsilonD S.2.1 S.2.2 a, gbN lastOf lastN lastD S.2.1 S.2.2 a, gbD lastOf lastN lastD S.2.1 S.2.2 a)) (fun S => goal wishes wants wantN wantD S.1 S.2.1 S.2.2) (fun a t b u => interf needs needTime needHow needOf lastOf changes changeTime changeHow changeOf a t b u) epsilonN epsilonD (firstFacts, firstN, firstD) many) n a ev = none ∧ ∃ (facts1 : Int → Prop) (numN1 : Int → Int) (numD1 : Int → Int) (gone1 : Int → Prop) (outN1 : Int) (outD1 : Int) (point1 : Int) (leastN1 : Int → Int) (leastD1 : Int → Int) (greatestN1 : Int → Int) (greatestD1 : Int → Int) (oldFacts1 : Int → Prop) (oldN1 : Int → Int) (oldD1 : Int → Int) (unit1 : Int) (times1 : Int → Int) (tried1 : Int) (triedRows1 : Int) (triedAction1 : Int → Int) (triedRow1 : Int → Int) (events1 : Int → Int), (∀ s, 0 ≤ triedAction1 s ∧ triedAction1 s < 12) ∧ (∀ i, 0 ≤ i → i < a → events1 i = ev i) ∧ ∀ o mem1, Rg false (d + 7) m_Mo_finds n0 13 [(2, .int (iI (a + -1))), (1, .int (iI (many : Int))), (0, .ref 168)] [] (MR pre code amountN amountD momentN momentD epsilonN epsilonD firstFacts firstN firstD wishes wants wantN wantD actions needs needTime needOf needHow needN needD changes changeTime changeOf changeHow changeN changeD lastOf lastN lastD steps stepAction startN startD lengthN lengthD rows row tried1 triedAction1 triedRows1 triedRow1 times1 unit1 facts1 numN1 numD1 oldFacts1 oldN1 oldD1 point1 judged fault faultPoint toldFacts toldN toldD outN1 outD1 pointN pointD gone1 now leastN1 leastD1 greatestN1 greatestD1 events1 post) o mem1 → Rg false (d + 7) m_Mo_finds n0 13 [(2, .int (iI a)), (1, .int (iI (many : Int))), (0, .ref 168)] [] (MR pre code amountN amountD momentN momentD epsilonN epsilonD firstFacts firstN firstD wishes wants wantN wantD actions needs needTime needOf needHow needN needD changes changeTime changeOf changeHow changeN changeD lastOf lastN lastD steps stepAction startN startD lengthN lengthD rows row tried0 triedAction0 triedRows0 triedRow0 times0 unit0 facts0 numN0 numD0 oldFacts0 oldN0 oldD0 point0 judged fault faultPoint toldFacts toldN toldD outN0 outD0 pointN pointD gone0 now leastN0 leastD0 greatestN0 greatestD0 events0 post) o mem1) := by
  obtain ⟨-, -, -, -, wA, -, -, -, -, -, -, -, -, -, -, -, -, -, -, -, -⟩ := id hw
  intro n
  induction n with
  | zero =>
    intro a ev facts0 numN0 numD0 gone0 outN0 outD0 point0 leastN0 leastD0 greatestN0 greatestD0 oldFacts0 oldN0 oldD0 unit0 times0 tried0 triedRows0 triedAction0 triedRow0 events0 ha ha2 hm1 wT0 hag hin
    have ea : a = (many : Int) := by omega
    subst ea
    rcases fd_end (d := d) (n0 := n0) hp hw hm ev facts0 numN0 numD0 gone0 outN0 outD0 point0 leastN0 leastD0 greatestN0 greatestD0 oldFacts0 oldN0 oldD0 unit0 times0 tried0 triedRows0 triedAction0 triedRow0 events0 wT0 hag hin with ⟨z1, z2⟩ | ⟨z1, z2⟩
    · exact Or.inl ⟨ev, by rw [findE, if_pos z1], z2⟩
    · exact Or.inr ⟨by rw [findE, if_neg z1], z2⟩
  | succ n ih =>
    intro a ev facts0 numN0 numD0 gone0 outN0 outD0 point0 leastN0 leastD0 greatestN0 greatestD0 oldFacts0 oldN0 oldD0 unit0 times0 tried0 triedRows0 triedAction0 triedRow0 events0 ha ha2 hm1 wT0 hag hin
    rw [findE]
    have key : ∀ (q : Nat) (c : Int) (facts0 : Int → Prop) (numN0 : Int → Int) (numD0 : Int → Int) (gone0 : Int → Prop) (outN0 : Int) (outD0 : Int) (point0 : Int) (leastN0 : Int → Int) (leastD0 : Int → Int) (greatestN0 : Int → Int) (greatestD0 : Int → Int) (oldFacts0 : Int → Prop) (oldN0 : Int → Int) (oldD0 : Int → Int) (unit0 : Int) (times0 : Int → Int) (tried0 : Int) (triedRows0 : Int) (triedAction0 : Int → Int) (triedRow0 : Int → Int) (events0 : Int → Int), c + q = 15 → 0 ≤ c → events0 a = c - 1 → (∀ s, 0 ≤ triedAction0 s ∧ triedAction0 s < 12) → (∀ i, 0 ≤ i → i < a → events0 i = ev i) → (∃ ev', fstC (fun c => findE (GoodE actions (fun S a t => fit needs needTime needOf needHow needN needD S.1 S.2.1 S.2.2 a t) (fun S a t => chAll changeTime changeOf changeHow changeN changeD t (changes a).toNat (6 * a) S) (fun S a => (lbN lastOf lastN lastD epsilonN epsilonD S.2.1 S.2.2 a, lbD lastOf lastN lastD epsilonN epsilonD S.2.1 S.2.2 a, gbN lastOf lastN lastD S.2.1 S.2.2 a, gbD lastOf lastN lastD S.2.1 S.2.2 a)) (fun S => goal wishes wants wantN wantD S.1 S.2.1 S.2.2) (fun a t b u => interf needs needTime needHow needOf lastOf changes changeTime changeHow changeOf a t b u) epsilonN epsilonD (firstFacts, firstN, firstD) many) n (a + 1) (up1 ev a c)) q c = some ev' ∧ ∃ (facts1 : Int → Prop) (numN1 : Int → Int) (numD1 : Int → Int) (gone1 : Int → Prop) (outN1 : Int) (outD1 : Int) (point1 : Int) (leastN1 : Int → Int) (leastD1 : Int → Int) (greatestN1 : Int → Int) (greatestD1 : Int → Int) (oldFacts1 : Int → Prop) (oldN1 : Int → Int) (oldD1 : Int → Int) (unit1 : Int) (times1 : Int → Int) (tried1 : Int) (triedRows1 : Int) (triedAction1 : Int → Int) (triedRow1 : Int → Int) (events1 : Int → Int), (∀ s, 0 ≤ triedAction1 s ∧ triedAction1 s < 12) ∧ (∃ A T pt S1, evS actions ev' many 0 (0, 0, fun _ => 0, fun _ => 0) = some (tried1, triedRows1, A, T) ∧ triedRows1 = 2 * tried1 ∧ (0 ≤ tried1 ∧ tried1 ≤ 6) ∧ (∀ s, 0 ≤ s → s < tried1 → triedAction1 s = A s ∧ 0 ≤ A s ∧ A s < actions) ∧ (∀ i, 0 ≤ i → i < triedRows1 → triedRow1 i = T i ∧ 0 ≤ T i ∧ T i < 2 * tried1) ∧ (∀ i j, 0 ≤ i → i < j → j < triedRows1 → ¬ T i = T j) ∧ ArrA tried1 triedRows1 T A (fun S a t => fit needs needTime needOf needHow needN needD S.1 S.2.1 S.2.2 a t) (fun S a t => chAll changeTime changeOf changeHow changeN changeD t (changes a).toNat (6 * a) S) (fun S a => (lbN lastOf lastN lastD epsilonN epsilonD S.2.1 S.2.2 a, lbD lastOf lastN lastD epsilonN epsilonD S.2.1 S.2.2 a, gbN lastOf lastN lastD S.2.1 S.2.2 a, gbD lastOf lastN lastD S.2.1 S.2.2 a)) (fun S => goal wishes wants wantN wantD S.1 S.2.1 S.2.2) (fun a t b u => interf needs needTime needHow needOf lastOf changes changeTime changeHow changeOf a t b u) epsilonN epsilonD (firstFacts, firstN, firstD) 0 pt S1 unit1 times1 ∧ (0 < unit1 ∧ unit1 ≤ 100000) ∧ (∀ p, 0 ≤ p → p < 2 * tried1 → 0 ≤ times1 p ∧ times1 p ≤ 24000000000) ∧ ∀ s, 0 ≤ s → s < tried1 → times1 (2 * s) < times1 (2 * s + 1)) ∧ Rg false (d + 7) m_Mo_finds n0 13 [(2, .int (iI a)), (1, .int (iI (many : Int))), (0, .ref 168)] [] (MR pre code amountN amountD momentN momentD epsilonN epsilonD firstFacts firstN firstD wishes wants wantN wantD actions needs needTime needOf needHow needN needD changes changeTime changeOf changeHow changeN changeD lastOf lastN lastD steps stepAction startN startD lengthN lengthD rows row tried0 triedAction0 triedRows0 triedRow0 times0 unit0 facts0 numN0 numD0 oldFacts0 oldN0 oldD0 point0 judged fault faultPoint toldFacts toldN toldD outN0 outD0 pointN pointD gone0 now leastN0 leastD0 greatestN0 greatestD0 events0 post) (.inl (some (.int (bP True)))) (MR pre code amountN amountD momentN momentD epsilonN epsilonD firstFacts firstN firstD wishes wants wantN wantD actions needs needTime needOf needHow needN needD changes changeTime changeOf changeHow changeN changeD lastOf lastN lastD steps stepAction startN startD lengthN lengthD rows row tried1 triedAction1 triedRows1 triedRow1 times1 unit1 facts1 numN1 numD1 oldFacts1 oldN1 oldD1 point1 judged fault faultPoint toldFacts toldN toldD outN1 outD1 pointN pointD gone1 now leastN1 leastD1 greatestN1 greatestD1 events1 post)) ∨ (fstC (fun c => findE (GoodE actions (fun S a t => fit needs needTime needOf needHow needN needD S.1 S.2.1 S.2.2 a t) (fun S a t => chAll changeTime changeOf changeHow changeN changeD t (changes a).toNat (6 * a) S) (fun S a => (lbN lastOf lastN lastD epsilonN epsilonD S.2.1 S.2.2 a, lbD lastOf lastN lastD epsilonN epsilonD S.2.1 S.2.2 a, gbN lastOf lastN lastD S.2.1 S.2.2 a, gbD lastOf lastN lastD S.2.1 S.2.2 a)) (fun S => goal wishes wants wantN wantD S.1 S.2.1 S.2.2) (fun a t b u => interf needs needTime needHow needOf lastOf changes changeTime changeHow changeOf a t b u) epsilonN epsilonD (firstFacts, firstN, firstD) many) n (a + 1) (up1 ev a c)) q c = none ∧ ∃ (facts1 : Int → Prop) (numN1 : Int → Int) (numD1 : Int → Int) (gone1 : Int → Prop) (outN1 : Int) (outD1 : Int) (point1 : Int) (leastN1 : Int → Int) (leastD1 : Int → Int) (greatestN1 : Int → Int) (greatestD1 : Int → Int) (oldFacts1 : Int → Prop) (oldN1 : Int → Int) (oldD1 : Int → Int) (unit1 : Int) (times1 : Int → Int) (tried1 : Int) (triedRows1 : Int) (triedAction1 : Int → Int) (triedRow1 : Int → Int) (events1 : Int → Int), (∀ s, 0 ≤ triedAction1 s ∧ triedAction1 s < 12) ∧ (∀ i, 0 ≤ i → i < a → events1 i = ev i) ∧ ∀ o mem1, Rg false (d + 7) m_Mo_finds n0 13 [(2, .int (iI (a + -1))), (1, .int (iI (many : Int))), (0, .ref 168)] [] (MR pre code amountN amountD momentN momentD epsilonN epsilonD firstFacts firstN firstD wishes wants wantN wantD actions needs needTime needOf needHow needN needD changes changeTime changeOf changeHow changeN changeD lastOf lastN lastD steps stepAction startN startD lengthN lengthD rows row tried1 triedAction1 triedRows1 triedRow1 times1 unit1 facts1 numN1 numD1 oldFacts1 oldN1 oldD1 point1 judged fault faultPoint toldFacts toldN toldD outN1 outD1 pointN pointD gone1 now leastN1 leastD1 greatestN1 greatestD1 events1 post) o mem1 → Rg false (d + 7) m_Mo_finds n0 13 [(2, .int (iI a)), (1, .int (iI (many : Int))), (0, .ref 168)] [] (MR pre code amountN amountD momentN momentD epsilonN epsilonD firstFacts firstN firstD wishes wants wantN wantD actions needs needTime needOf needHow needN needD changes changeTime changeOf changeHow changeN changeD lastOf lastN lastD steps stepAction startN startD lengthN lengthD rows row tried0 triedAction0 triedRows0 triedRow0 times0 unit0 facts0 numN0 numD0 oldFacts0 oldN0 oldD0 point0 judged fault faultPoint toldFacts toldN toldD outN0 outD0 pointN pointD gone0 now leastN0 leastD0 greatestN0 greatestD0 events0 post) o mem1) := by
      clear hm1 wT0 hag
      clear events0 triedRow0 triedAction0 triedRows0 tried0 times0 unit0 oldD0 oldN0 oldFacts0 greatestD0 greatestN0 leastD0 leastN0 point0 outD0 outN0 gone0 numD0 numN0 facts0
      intro q
      induction q with
      | zero =>
        intro c facts0 numN0 numD0 gone0 outN0 outD0 point0 leastN0 leastD0 greatestN0 greatestD0 oldFacts0 oldN0 oldD0 unit0 times0 tried0 triedRows0 triedAction0 triedRow0 events0 hc hc2 hm1 wT0 hag
        refine Or.inr ⟨rfl, facts0, numN0, numD0, gone0, outN0, outD0, point0, leastN0, leastD0, greatestN0, greatestD0, oldFacts0, oldN0, oldD0, unit0, times0, tried0, triedRows0, triedAction0, triedRow0, (up1 events0 a (events0 a + 1)), wT0, fun i z1 z2 => by rw [up1_ne _ _ (by omega)]; exact hag i z1 z2, fun o mem1 hg => ?_⟩
        have u1 : up1 events0 a (events0 a + 1) a = events0 a + 1 := up1_eq _ _ _
        refine Rg.step 14 F_Mo_finds_13 rfl (fun _ => rfl) ?_
        refine Rg.ifltI 113 17 F_Mo_finds_14 rfl rfl (by omega) (fun h14 => by omega) (fun _ => ?_)
        refine Rg.step 18 F_Mo_finds_17 rfl (fun _ => rfl) ?_
        refine Rg.step 19 F_Mo_finds_18 rfl (fun _ => rfl) ?_
        refine Rg.icneI 58 22 F_Mo_finds_19 rfl rfl (by omega) (by omega) (fun _ => ?_) (fun h19 => by omega)
        refine Rg.step 59 F_Mo_finds_58 rfl (fun _ => rfl) ?_
        refine Rg.getf 62 F_Mo_finds_59 rfl rF_26_175 (gM hp) rfl ?_
        refine Rg.step 63 F_Mo_finds_62 rfl (fun _ => rfl) ?_
        refine Rg.step 64 F_Mo_finds_63 rfl (fun _ => rfl) ?_
        refine Rg.ild 65 F_Mo_finds_64 rfl (gR_events hp) (by omega) (by decide) ?_
        refine Rg.step 66 F_Mo_finds_65 rfl (fun _ => rfl) ?_
        refine Rg.addI 67 F_Mo_finds_66 rfl ?_
        refine Rg.ist 68 F_Mo_finds_67 rfl (gR_events hp) (by decide) (sR_events hp) (by omega) (by decide) ?_
        refine Rg.step 69 F_Mo_finds_68 rfl (fun _ => rfl) ?_
        refine Rg.getf 72 F_Mo_finds_69 rfl rF_26_175 (gM hp) rfl ?_
        refine Rg.step 73 F_Mo_finds_72 rfl (fun _ => rfl) ?_
        refine Rg.ild 74 F_Mo_finds_73 rfl (gR_events hp) (by omega) (by decide) ?_
        refine Rg.bip 76 F_Mo_finds_74 rfl rfl ?_
        refine Rg.icleI 85 79 F_Mo_finds_76 rfl rfl (by omega) (by omega) (fun h76 => by omega) (fun _ => ?_)
        refine Rg.inc 82 F_Mo_finds_79 rfl rfl (by decide) ?_
        refine Rg.step 13 F_Mo_finds_82 rfl (fun _ => rfl) ?_
        exact Rg.weak hg (by simp [lput1, lput2, Value.category, fi0, fi1, fi2, fi3] <;> first | rfl | exact ⟨rfl, rfl⟩) (by simp [lput1, lput2, Value.category, fi0, fi1, fi2, fi3] <;> first | rfl | exact ⟨rfl, rfl⟩)
      | succ q ihq =>
        intro c facts0 numN0 numD0 gone0 outN0 outD0 point0 leastN0 leastD0 greatestN0 greatestD0 oldFacts0 oldN0 oldD0 unit0 times0 tried0 triedRows0 triedAction0 triedRow0 events0 hc hc2 hm1 wT0 hag
        have u1 : up1 events0 a (events0 a + 1) a = events0 a + 1 := up1_eq _ _ _
        have hag1 : ∀ i, 0 ≤ i → i < a + 1 → (up1 events0 a (events0 a + 1)) i = up1 ev a c i := fun i z1 z2 => by
          by_cases hi : i = a
          · rw [hi, up1_eq, up1_eq]; omega
          · rw [up1_ne _ _ hi, up1_ne _ _ hi]; exact hag i z1 (by omega)
        have hin1 : ∀ i, 0 ≤ i → i < a + 1 → 0 ≤ up1 ev a c i ∧ up1 ev a c i < 15 := fun i z1 z2 => by
          by_cases hi : i = a
          · rw [hi, up1_eq]; omega
          · rw [up1_ne _ _ hi]; exact hin i z1 (by omega)
        obtain ⟨m1, R1, A1, T1, i1, i2, hte⟩ := c_Mo_takeEvents (d := d + 6) (pre := pre) (post := post) (code := code) (amountN := amountN) (amountD := amountD) (momentN := momentN) (momentD := momentD) (epsilonN := epsilonN) (epsilonD := epsilonD) (firstFacts := firstFacts) (firstN := firstN) (firstD := firstD) (wishes := wishes) (wants := wants) (wantN := wantN) (wantD := wantD) (actions := actions) (needs := needs) (needTime := needTime) (needOf := needOf) (needHow := needHow) (needN := needN) (needD := needD) (changes := changes) (changeTime := changeTime) (changeOf := changeOf) (changeHow := changeHow) (changeN := changeN) (changeD := changeD) (lastOf := lastOf) (lastN := lastN) (lastD := lastD) (steps := steps) (stepAction := stepAction) (startN := startN) (startD := startD) (lengthN := lengthN) (lengthD := lengthD) (rows := rows) (row := row) (tried := tried0) (triedAction := triedAction0) (triedRows := triedRows0) (triedRow := triedRow0) (times := times0) (unit := unit0) (facts := facts0) (numN := numN0) (numD := numD0) (oldFacts := oldFacts0) (oldN := oldN0) (oldD := oldD0) (point := point0) (judged := judged) (fault := fault) (faultPoint := faultPoint) (toldFacts := toldFacts) (toldN := toldN) (toldD := toldD) (outN := outN0) (outD := outD0) (pointN := pointN) (pointD := pointD) (gone := gone0) (now := now) (leastN := leastN0) (leastD := leastD0) (greatestN := greatestN0) (greatestD := greatestD0) (events := (up1 events0 a (events0 a + 1))) hp wA wT0 (many := a + 1) (by omega) (fun i z1 z2 => by rw [hag1 i z1 z2]; exact hin1 i z1 z2)
        have ean : (((a + 1).toNat : Nat) : Int) = a + 1 := by omega
        have emn : many = (a + 1).toNat + n := by omega
        rcases evS_E (acts := actions) (ev := up1 ev a c) (ev1 := (up1 events0 a (events0 a + 1))) (a + 1).toNat 0 (0, 0, triedAction0, triedRow0) (0, 0, fun _ => 0, fun _ => 0) (fun i z1 z2 => hag1 i z1 (by omega)) ⟨rfl, rfl, fun s z1 z2 => absurd z2 (by show ¬ s < 0; omega), fun s z1 z2 => absurd z2 (by show ¬ s < 0; omega)⟩ with ⟨a1, a2⟩ | ⟨x, y, a1, a2, a3⟩
        · have hN : ¬ ∃ st, evS actions (up1 events0 a (events0 a + 1)) (a + 1).toNat 0 (0, 0, triedAction0, triedRow0) = some st := by
            rintro ⟨st, hst⟩
            rw [a1] at hst
            cases hst
          have hf : findE (GoodE actions (fun S a t => fit needs needTime needOf needHow needN needD S.1 S.2.1 S.2.2 a t) (fun S a t => chAll changeTime changeOf changeHow changeN changeD t (changes a).toNat (6 * a) S) (fun S a => (lbN lastOf lastN lastD epsilonN epsilonD S.2.1 S.2.2 a, lbD lastOf lastN lastD epsilonN epsilonD S.2.1 S.2.2 a, gbN lastOf lastN lastD S.2.1 S.2.2 a, gbD lastOf lastN lastD S.2.1 S.2.2 a)) (fun S => goal wishes wants wantN wantD S.1 S.2.1 S.2.2) (fun a t b u => interf needs needTime needHow needOf lastOf changes changeTime changeHow changeOf a t b u) epsilonN epsilonD (firstFacts, firstN, firstD) many) n (a + 1) (up1 ev a c) = none := findE_none n (a + 1) _ (fun ev1 z1 z2 => by
            conv => rw [emn]
            exact GoodE_pre a2 (fun i y1 y2 => z1 i (by omega)))
          have hfc : fstC (fun c => findE (GoodE actions (fun S a t => fit needs needTime needOf needHow needN needD S.1 S.2.1 S.2.2 a t) (fun S a t => chAll changeTime changeOf changeHow changeN changeD t (changes a).toNat (6 * a) S) (fun S a => (lbN lastOf lastN lastD epsilonN epsilonD S.2.1 S.2.2 a, lbD lastOf lastN lastD epsilonN epsilonD S.2.1 S.2.2 a, gbN lastOf lastN lastD S.2.1 S.2.2 a, gbD lastOf lastN lastD S.2.1 S.2.2 a)) (fun S => goal wishes wants wantN wantD S.1 S.2.1 S.2.2) (fun a t b u => interf needs needTime needHow needOf lastOf changes changeTime changeHow changeOf a t b u) epsilonN epsilonD (firstFacts, firstN, firstD) many) n (a + 1) (up1 ev a c)) (q + 1) c = fstC (fun c => findE (GoodE actions (fun S a t => fit needs needTime needOf needHow needN needD S.1 S.2.1 S.2.2 a t) (fun S a t => chAll changeTime changeOf changeHow changeN changeD t (changes a).toNat (6 * a) S) (fun S a => (lbN lastOf lastN lastD epsilonN epsilonD S.2.1 S.2.2 a, lbD lastOf lastN lastD epsilonN epsilonD S.2.1 S.2.2 a, gbN lastOf lastN lastD S.2.1 S.2.2 a, gbD lastOf lastN lastD S.2.1 S.2.2 a)) (fun S => goal wishes wants wantN wantD S.1 S.2.1 S.2.2) (fun a t b u => interf needs needTime needHow needOf lastOf changes changeTime changeHow changeOf a t b u) epsilonN epsilonD (firstFacts, firstN, firstD) many) n (a + 1) (up1 ev a c)) q (c + 1) := by rw [fstC, hf]
          rw [hfc]
          rcases ihq (c + 1) facts0 numN0 numD0 gone0 outN0 outD0 point0 leastN0 leastD0 greatestN0 greatestD0 oldFacts0 oldN0 oldD0 unit0 times0 m1 R1 A1 T1 (up1 events0 a (events0 a + 1)) (by omega) (by omega) (by rw [u1]; omega) i2 (fun i z1 z2 => by rw [up1_ne _ _ (by omega)]; exact hag i z1 z2) with ⟨ev9, z1, facts9, numN9, numD9, gone9, outN9, outD9, point9, leastN9, leastD9, greatestN9, greatestD9, oldFacts9, oldN9, oldD9, unit9, times9, tried9, triedRows9, triedAction9, triedRow9, events9, z2, z3, ht⟩ | ⟨z1, facts9, numN9, numD9, gone9, outN9, outD9, point9, leastN9, leastD9, greatestN9, greatestD9, oldFacts9, oldN9, oldD9, unit9, times9, tried9, triedRows9, triedAction9, triedRow9, events9, z2, z3, ht⟩
          · refine Or.inl ⟨ev9, z1, facts9, numN9, numD9, gone9, outN9, outD9, point9, leastN9, leastD9, greatestN9, greatestD9, oldFacts9, oldN9, oldD9, unit9, times9, tried9, triedRows9, triedAction9, triedRow9, events9, z2, z3, ?_⟩
            refine Rg.step 14 F_Mo_finds_13 rfl (fun _ => rfl) ?_
            refine Rg.ifltI 113 17 F_Mo_finds_14 rfl rfl (by omega) (fun h14 => by omega) (fun _ => ?_)
            refine Rg.step 18 F_Mo_finds_17 rfl (fun _ => rfl) ?_
            refine Rg.step 19 F_Mo_finds_18 rfl (fun _ => rfl) ?_
            refine Rg.icneI 58 22 F_Mo_finds_19 rfl rfl (by omega) (by omega) (fun _ => ?_) (fun h19 => by omega)
            refine Rg.step 59 F_Mo_finds_58 rfl (fun _ => rfl) ?_
            refine Rg.getf 62 F_Mo_finds_59 rfl rF_26_175 (gM hp) rfl ?_
            refine Rg.step 63 F_Mo_finds_62 rfl (fun _ => rfl) ?_
            refine Rg.step 64 F_Mo_finds_63 rfl (fun _ => rfl) ?_
            refine Rg.ild 65 F_Mo_finds_64 rfl (gR_events hp) (by omega) (by decide) ?_
            refine Rg.step 66 F_Mo_finds_65 rfl (fun _ => rfl) ?_
            refine Rg.addI 67 F_Mo_finds_66 rfl ?_
            refine Rg.ist 68 F_Mo_finds_67 rfl (gR_events hp) (by decide) (sR_events hp) (by omega) (by decide) ?_
            refine Rg.step 69 F_Mo_finds_68 rfl (fun _ => rfl) ?_
            refine Rg.getf 72 F_Mo_finds_69 rfl rF_26_175 (gM hp) rfl ?_
            refine Rg.step 73 F_Mo_finds_72 rfl (fun _ => rfl) ?_
            refine Rg.ild 74 F_Mo_finds_73 rfl (gR_events hp) (by omega) (by decide) ?_
            refine Rg.bip 76 F_Mo_finds_74 rfl rfl ?_
            refine Rg.icleI 85 79 F_Mo_finds_76 rfl rfl (by omega) (by omega) (fun _ => ?_) (fun h76 => by omega)
            refine Rg.step 86 F_Mo_finds_85 rfl (fun _ => rfl) ?_
            refine Rg.step 87 F_Mo_finds_86 rfl (fun _ => rfl) ?_
            refine Rg.step 88 F_Mo_finds_87 rfl (fun _ => rfl) ?_
            refine Rg.addI 89 F_Mo_finds_88 rfl ?_
            refine Rg.call 92 F_Mo_finds_89 rfl (one_V rM_26_391 (by decide) (by simp) rfl rfl (gM hp) rfl) (Nat.le_of_ble_eq_true rfl) hte ?_
            refine Rg.ifeqP 13 95 F_Mo_finds_92 rfl rfl (fun _ => ?_) (fun h92 => absurd h92 hN)
            exact Rg.weak ht (by simp [lput1, lput2, Value.category, fi0, fi1, fi2, fi3] <;> first | rfl | exact ⟨rfl, rfl⟩) (by simp [lput1, lput2, Value.category, fi0, fi1, fi2, fi3] <;> first | rfl | exact ⟨rfl, rfl⟩)
          · refine Or.inr ⟨z1, facts9, numN9, numD9, gone9, outN9, outD9, point9, leastN9, leastD9, greatestN9, greatestD9, oldFacts9, oldN9, oldD9, unit9, times9, tried9, triedRows9, triedAction9, triedRow9, events9, z2, z3, fun o mem1 hg => ?_⟩
            refine Rg.step 14 F_Mo_finds_13 rfl (fun _ => rfl) ?_
            refine Rg.ifltI 113 17 F_Mo_finds_14 rfl rfl (by omega) (fun h14 => by omega) (fun _ => ?_)
            refine Rg.step 18 F_Mo_finds_17 rfl (fun _ => rfl) ?_
            refine Rg.step 19 F_Mo_finds_18 rfl (fun _ => rfl) ?_
            refine Rg.icneI 58 22 F_Mo_finds_19 rfl rfl (by omega) (by omega) (fun _ => ?_) (fun h19 => by omega)
            refine Rg.step 59 F_Mo_finds_58 rfl (fun _ => rfl) ?_
            refine Rg.getf 62 F_Mo_finds_59 rfl rF_26_175 (gM hp) rfl ?_
            refine Rg.step 63 F_Mo_finds_62 rfl (fun _ => rfl) ?_
            refine Rg.step 64 F_Mo_finds_63 rfl (fun _ => rfl) ?_
            refine Rg.ild 65 F_Mo_finds_64 rfl (gR_events hp) (by omega) (by decide) ?_
            refine Rg.step 66 F_Mo_finds_65 rfl (fun _ => rfl) ?_
            refine Rg.addI 67 F_Mo_finds_66 rfl ?_
            refine Rg.ist 68 F_Mo_finds_67 rfl (gR_events hp) (by decide) (sR_events hp) (by omega) (by decide) ?_
            refine Rg.step 69 F_Mo_finds_68 rfl (fun _ => rfl) ?_
            refine Rg.getf 72 F_Mo_finds_69 rfl rF_26_175 (gM hp) rfl ?_
            refine Rg.step 73 F_Mo_finds_72 rfl (fun _ => rfl) ?_
            refine Rg.ild 74 F_Mo_finds_73 rfl (gR_events hp) (by omega) (by decide) ?_
            refine Rg.bip 76 F_Mo_finds_74 rfl rfl ?_
            refine Rg.icleI 85 79 F_Mo_finds_76 rfl rfl (by omega) (by omega) (fun _ => ?_) (fun h76 => by omega)
            refine Rg.step 86 F_Mo_finds_85 rfl (fun _ => rfl) ?_
            refine Rg.step 87 F_Mo_finds_86 rfl (fun _ => rfl) ?_
            refine Rg.step 88 F_Mo_finds_87 rfl (fun _ => rfl) ?_
            refine Rg.addI 89 F_Mo_finds_88 rfl ?_
            refine Rg.call 92 F_Mo_finds_89 rfl (one_V rM_26_391 (by decide) (by simp) rfl rfl (gM hp) rfl) (Nat.le_of_ble_eq_true rfl) hte ?_
            refine Rg.ifeqP 13 95 F_Mo_finds_92 rfl rfl (fun _ => ?_) (fun h92 => absurd h92 hN)
            exact Rg.weak (ht o mem1 hg) (by simp [lput1, lput2, Value.category, fi0, fi1, fi2, fi3] <;> first | rfl | exact ⟨rfl, rfl⟩) (by simp [lput1, lput2, Value.category, fi0, fi1, fi2, fi3] <;> first | rfl | exact ⟨rfl, rfl⟩)
        · have hY : ∃ st, evS actions (up1 events0 a (events0 a + 1)) (a + 1).toNat 0 (0, 0, triedAction0, triedRow0) = some st := ⟨_, a1⟩
          by_cases hn : n = 0
          · skip
            rcases ih (a + 1) (up1 ev a c) facts0 numN0 numD0 gone0 outN0 outD0 point0 leastN0 leastD0 greatestN0 greatestD0 oldFacts0 oldN0 oldD0 unit0 times0 m1 R1 A1 T1 (up1 events0 a (events0 a + 1)) (by omega) (by omega) (fun z => absurd hn z) i2 hag1 hin1 with ⟨ev8, f1, facts8, numN8, numD8, gone8, outN8, outD8, point8, leastN8, leastD8, greatestN8, greatestD8, oldFacts8, oldN8, oldD8, unit8, times8, tried8, triedRows8, triedAction8, triedRow8, events8, z2, z3, ht⟩ | ⟨f1, facts8, numN8, numD8, gone8, outN8, outD8, point8, leastN8, leastD8, greatestN8, greatestD8, oldFacts8, oldN8, oldD8, unit8, times8, tried8, triedRows8, triedAction8, triedRow8, events8, z2, z3, ht⟩
            · refine Or.inl ⟨ev8, by rw [fstC, f1], facts8, numN8, numD8, gone8, outN8, outD8, point8, leastN8, leastD8, greatestN8, greatestD8, oldFacts8, oldN8, oldD8, unit8, times8, tried8, triedRows8, triedAction8, triedRow8, events8, z2, z3, ?_⟩
              refine Rg.step 14 F_Mo_finds_13 rfl (fun _ => rfl) ?_
              refine Rg.ifltI 113 17 F_Mo_finds_14 rfl rfl (by omega) (fun h14 => by omega) (fun _ => ?_)
              refine Rg.step 18 F_Mo_finds_17 rfl (fun _ => rfl) ?_
              refine Rg.step 19 F_Mo_finds_18 rfl (fun _ => rfl) ?_
              refine Rg.icneI 58 22 F_Mo_finds_19 rfl rfl (by omega) (by omega) (fun _ => ?_) (fun h19 => by omega)
              refine Rg.step 59 F_Mo_finds_58 rfl (fun _ => rfl) ?_
              refine Rg.getf 62 F_Mo_finds_59 rfl rF_26_175 (gM hp) rfl ?_
              refine Rg.step 63 F_Mo_finds_62 rfl (fun _ => rfl) ?_
              refine Rg.step 64 F_Mo_finds_63 rfl (fun _ => rfl) ?_
              refine Rg.ild 65 F_Mo_finds_64 rfl (gR_events hp) (by omega) (by decide) ?_
              refine Rg.step 66 F_Mo_finds_65 rfl (fun _ => rfl) ?_
              refine Rg.addI 67 F_Mo_finds_66 rfl ?_
              refine Rg.ist 68 F_Mo_finds_67 rfl (gR_events hp) (by decide) (sR_events hp) (by omega) (by decide) ?_
              refine Rg.step 69 F_Mo_finds_68 rfl (fun _ => rfl) ?_
              refine Rg.getf 72 F_Mo_finds_69 rfl rF_26_175 (gM hp) rfl ?_
              refine Rg.step 73 F_Mo_finds_72 rfl (fun _ => rfl) ?_
              refine Rg.ild 74 F_Mo_finds_73 rfl (gR_events hp) (by omega) (by decide) ?_
              refine Rg.bip 76 F_Mo_finds_74 rfl rfl ?_
              refine Rg.icleI 85 79 F_Mo_finds_76 rfl rfl (by omega) (by omega) (fun _ => ?_) (fun h76 => by omega)
              refine Rg.step 86 F_Mo_finds_85 rfl (fun _ => rfl) ?_
              refine Rg.step 87 F_Mo_finds_86 rfl (fun _ => rfl) ?_
              refine Rg.step 88 F_Mo_finds_87 rfl (fun _ => rfl) ?_
              refine Rg.addI 89 F_Mo_finds_88 rfl ?_
              refine Rg.call 92 F_Mo_finds_89 rfl (one_V rM_26_391 (by decide) (by simp) rfl rfl (gM hp) rfl) (Nat.le_of_ble_eq_true rfl) hte ?_
              refine Rg.ifeqP 13 95 F_Mo_finds_92 rfl rfl (fun h92 => absurd hY h92) (fun _ => ?_)
              refine Rg.inc 98 F_Mo_finds_95 rfl rfl (by decide) ?_
              refine Rg.step 99 F_Mo_finds_98 rfl (fun _ => rfl) ?_
              refine Rg.step 100 F_Mo_finds_99 rfl (fun _ => rfl) ?_
              refine Rg.icgeI 13 103 F_Mo_finds_100 rfl rfl (by omega) (by omega) (fun _ => ?_) (fun h100 => by omega)
              exact Rg.weak ht (by simp [lput1, lput2, Value.category, fi0, fi1, fi2, fi3] <;> first | rfl | exact ⟨rfl, rfl⟩) (by simp [lput1, lput2, Value.category, fi0, fi1, fi2, fi3] <;> first | rfl | exact ⟨rfl, rfl⟩)
            · have hfc : fstC (fun c => findE (GoodE actions (fun S a t => fit needs needTime needOf needHow needN needD S.1 S.2.1 S.2.2 a t) (fun S a t => chAll changeTime changeOf changeHow changeN changeD t (changes a).toNat (6 * a) S) (fun S a => (lbN lastOf lastN lastD epsilonN epsilonD S.2.1 S.2.2 a, lbD lastOf lastN lastD epsilonN epsilonD S.2.1 S.2.2 a, gbN lastOf lastN lastD S.2.1 S.2.2 a, gbD lastOf lastN lastD S.2.1 S.2.2 a)) (fun S => goal wishes wants wantN wantD S.1 S.2.1 S.2.2) (fun a t b u => interf needs needTime needHow needOf lastOf changes changeTime changeHow changeOf a t b u) epsilonN epsilonD (firstFacts, firstN, firstD) many) n (a + 1) (up1 ev a c)) (q + 1) c = fstC (fun c => findE (GoodE actions (fun S a t => fit needs needTime needOf needHow needN needD S.1 S.2.1 S.2.2 a t) (fun S a t => chAll changeTime changeOf changeHow changeN changeD t (changes a).toNat (6 * a) S) (fun S a => (lbN lastOf lastN lastD epsilonN epsilonD S.2.1 S.2.2 a, lbD lastOf lastN lastD epsilonN epsilonD S.2.1 S.2.2 a, gbN lastOf lastN lastD S.2.1 S.2.2 a, gbD lastOf lastN lastD S.2.1 S.2.2 a)) (fun S => goal wishes wants wantN wantD S.1 S.2.1 S.2.2) (fun a t b u => interf needs needTime needHow needOf lastOf changes changeTime changeHow changeOf a t b u) epsilonN epsilonD (firstFacts, firstN, firstD) many) n (a + 1) (up1 ev a c)) q (c + 1) := by rw [fstC, f1]
              rw [hfc]
              have e8 : events8 a = c := by rw [z3 a ha2 (by omega), up1_eq]
              rw [show a + 1 + -1 = a by omega] at ht
              rcases ihq (c + 1) facts8 numN8 numD8 gone8 outN8 outD8 point8 leastN8 leastD8 greatestN8 greatestD8 oldFacts8 oldN8 oldD8 unit8 times8 tried8 triedRows8 triedAction8 triedRow8 events8 (by omega) (by omega) (by rw [e8]; omega) z2 (fun i y1 y2 => by rw [z3 i y1 (by omega), up1_ne _ _ (by omega)]) with ⟨ev9, y1, facts9, numN9, numD9, gone9, outN9, outD9, point9, leastN9, leastD9, greatestN9, greatestD9, oldFacts9, oldN9, oldD9, unit9, times9, tried9, triedRows9, triedAction9, triedRow9, events9, y2, y3, ht2⟩ | ⟨y1, facts9, numN9, numD9, gone9, outN9, outD9, point9, leastN9, leastD9, greatestN9, greatestD9, oldFacts9, oldN9, oldD9, unit9, times9, tried9, triedRows9, triedAction9, triedRow9, events9, y2, y3, ht2⟩
              · refine Or.inl ⟨ev9, y1, facts9, numN9, numD9, gone9, outN9, outD9, point9, leastN9, leastD9, greatestN9, greatestD9, oldFacts9, oldN9, oldD9, unit9, times9, tried9, triedRows9, triedAction9, triedRow9, events9, y2, y3, ?_⟩
                refine Rg.step 14 F_Mo_finds_13 rfl (fun _ => rfl) ?_
                refine Rg.ifltI 113 17 F_Mo_finds_14 rfl rfl (by omega) (fun h14 => by omega) (fun _ => ?_)
                refine Rg.step 18 F_Mo_finds_17 rfl (fun _ => rfl) ?_
                refine Rg.step 19 F_Mo_finds_18 rfl (fun _ => rfl) ?_
                refine Rg.icneI 58 22 F_Mo_finds_19 rfl rfl (by omega) (by omega) (fun _ => ?_) (fun h19 => by omega)
                refine Rg.step 59 F_Mo_finds_58 rfl (fun _ => rfl) ?_
                refine Rg.getf 62 F_Mo_finds_59 rfl rF_26_175 (gM hp) rfl ?_
                refine Rg.step 63 F_Mo_finds_62 rfl (fun _ => rfl) ?_
                refine Rg.step 64 F_Mo_finds_63 rfl (fun _ => rfl) ?_
                refine Rg.ild 65 F_Mo_finds_64 rfl (gR_events hp) (by omega) (by decide) ?_
                refine Rg.step 66 F_Mo_finds_65 rfl (fun _ => rfl) ?_
                refine Rg.addI 67 F_Mo_finds_66 rfl ?_
                refine Rg.ist 68 F_Mo_finds_67 rfl (gR_events hp) (by decide) (sR_events hp) (by omega) (by decide) ?_
                refine Rg.step 69 F_Mo_finds_68 rfl (fun _ => rfl) ?_
                refine Rg.getf 72 F_Mo_finds_69 rfl rF_26_175 (gM hp) rfl ?_
                refine Rg.step 73 F_Mo_finds_72 rfl (fun _ => rfl) ?_
                refine Rg.ild 74 F_Mo_finds_73 rfl (gR_events hp) (by omega) (by decide) ?_
                refine Rg.bip 76 F_Mo_finds_74 rfl rfl ?_
                refine Rg.icleI 85 79 F_Mo_finds_76 rfl rfl (by omega) (by omega) (fun _ => ?_) (fun h76 => by omega)
                refine Rg.step 86 F_Mo_finds_85 rfl (fun _ => rfl) ?_
                refine Rg.step 87 F_Mo_finds_86 rfl (fun _ => rfl) ?_
                refine Rg.step 88 F_Mo_finds_87 rfl (fun _ => rfl) ?_
                refine Rg.addI 89 F_Mo_finds_88 rfl ?_
                refine Rg.call 92 F_Mo_finds_89 rfl (one_V rM_26_391 (by decide) (by simp) rfl rfl (gM hp) rfl) (Nat.le_of_ble_eq_true rfl) hte ?_
                refine Rg.ifeqP 13 95 F_Mo_finds_92 rfl rfl (fun h92 => absurd hY h92) (fun _ => ?_)
                refine Rg.inc 98 F_Mo_finds_95 rfl rfl (by decide) ?_
                refine Rg.step 99 F_Mo_finds_98 rfl (fun _ => rfl) ?_
                refine Rg.step 100 F_Mo_finds_99 rfl (fun _ => rfl) ?_
                refine Rg.icgeI 13 103 F_Mo_finds_100 rfl rfl (by omega) (by omega) (fun _ => ?_) (fun h100 => by omega)
                exact Rg.weak (ht _ _ ht2) (by simp [lput1, lput2, Value.category, fi0, fi1, fi2, fi3] <;> first | rfl | exact ⟨rfl, rfl⟩) (by simp [lput1, lput2, Value.category, fi0, fi1, fi2, fi3] <;> first | rfl | exact ⟨rfl, rfl⟩)
              · refine Or.inr ⟨y1, facts9, numN9, numD9, gone9, outN9, outD9, point9, leastN9, leastD9, greatestN9, greatestD9, oldFacts9, oldN9, oldD9, unit9, times9, tried9, triedRows9, triedAction9, triedRow9, events9, y2, y3, fun o mem1 hg => ?_⟩
                refine Rg.step 14 F_Mo_finds_13 rfl (fun _ => rfl) ?_
                refine Rg.ifltI 113 17 F_Mo_finds_14 rfl rfl (by omega) (fun h14 => by omega) (fun _ => ?_)
                refine Rg.step 18 F_Mo_finds_17 rfl (fun _ => rfl) ?_
                refine Rg.step 19 F_Mo_finds_18 rfl (fun _ => rfl) ?_
                refine Rg.icneI 58 22 F_Mo_finds_19 rfl rfl (by omega) (by omega) (fun _ => ?_) (fun h19 => by omega)
                refine Rg.step 59 F_Mo_finds_58 rfl (fun _ => rfl) ?_
                refine Rg.getf 62 F_Mo_finds_59 rfl rF_26_175 (gM hp) rfl ?_
                refine Rg.step 63 F_Mo_finds_62 rfl (fun _ => rfl) ?_
                refine Rg.step 64 F_Mo_finds_63 rfl (fun _ => rfl) ?_
                refine Rg.ild 65 F_Mo_finds_64 rfl (gR_events hp) (by omega) (by decide) ?_
                refine Rg.step 66 F_Mo_finds_65 rfl (fun _ => rfl) ?_
                refine Rg.addI 67 F_Mo_finds_66 rfl ?_
                refine Rg.ist 68 F_Mo_finds_67 rfl (gR_events hp) (by decide) (sR_events hp) (by omega) (by decide) ?_
                refine Rg.step 69 F_Mo_finds_68 rfl (fun _ => rfl) ?_
                refine Rg.getf 72 F_Mo_finds_69 rfl rF_26_175 (gM hp) rfl ?_
                refine Rg.step 73 F_Mo_finds_72 rfl (fun _ => rfl) ?_
                refine Rg.ild 74 F_Mo_finds_73 rfl (gR_events hp) (by omega) (by decide) ?_
                refine Rg.bip 76 F_Mo_finds_74 rfl rfl ?_
                refine Rg.icleI 85 79 F_Mo_finds_76 rfl rfl (by omega) (by omega) (fun _ => ?_) (fun h76 => by omega)
                refine Rg.step 86 F_Mo_finds_85 rfl (fun _ => rfl) ?_
                refine Rg.step 87 F_Mo_finds_86 rfl (fun _ => rfl) ?_
                refine Rg.step 88 F_Mo_finds_87 rfl (fun _ => rfl) ?_
                refine Rg.addI 89 F_Mo_finds_88 rfl ?_
                refine Rg.call 92 F_Mo_finds_89 rfl (one_V rM_26_391 (by decide) (by simp) rfl rfl (gM hp) rfl) (Nat.le_of_ble_eq_true rfl) hte ?_
                refine Rg.ifeqP 13 95 F_Mo_finds_92 rfl rfl (fun h92 => absurd hY h92) (fun _ => ?_)
                refine Rg.inc 98 F_Mo_finds_95 rfl rfl (by decide) ?_
                refine Rg.step 99 F_Mo_finds_98 rfl (fun _ => rfl) ?_
                refine Rg.step 100 F_Mo_finds_99 rfl (fun _ => rfl) ?_
                refine Rg.icgeI 13 103 F_Mo_finds_100 rfl rfl (by omega) (by omega) (fun _ => ?_) (fun h100 => by omega)
                exact Rg.weak (ht _ _ (ht2 o mem1 hg)) (by simp [lput1, lput2, Value.category, fi0, fi1, fi2, fi3] <;> first | rfl | exact ⟨rfl, rfl⟩) (by simp [lput1, lput2, Value.category, fi0, fi1, fi2, fi3] <;> first | rfl | exact ⟨rfl, rfl⟩)
          · skip
            rcases ih (a + 1) (up1 ev a c) facts0 numN0 numD0 gone0 outN0 outD0 point0 leastN0 leastD0 greatestN0 greatestD0 oldFacts0 oldN0 oldD0 unit0 times0 m1 R1 A1 T1 (up1 (up1 events0 a (events0 a + 1)) (a + 1) (-1)) (by omega) (by omega) (fun _ => up1_eq _ _ _) i2 (fun i z1 z2 => by rw [up1_ne _ _ (by omega)]; exact hag1 i z1 z2) hin1 with ⟨ev8, f1, facts8, numN8, numD8, gone8, outN8, outD8, point8, leastN8, leastD8, greatestN8, greatestD8, oldFacts8, oldN8, oldD8, unit8, times8, tried8, triedRows8, triedAction8, triedRow8, events8, z2, z3, ht⟩ | ⟨f1, facts8, numN8, numD8, gone8, outN8, outD8, point8, leastN8, leastD8, greatestN8, greatestD8, oldFacts8, oldN8, oldD8, unit8, times8, tried8, triedRows8, triedAction8, triedRow8, events8, z2, z3, ht⟩
            · refine Or.inl ⟨ev8, by rw [fstC, f1], facts8, numN8, numD8, gone8, outN8, outD8, point8, leastN8, leastD8, greatestN8, greatestD8, oldFacts8, oldN8, oldD8, unit8, times8, tried8, triedRows8, triedAction8, triedRow8, events8, z2, z3, ?_⟩
              refine Rg.step 14 F_Mo_finds_13 rfl (fun _ => rfl) ?_
              refine Rg.ifltI 113 17 F_Mo_finds_14 rfl rfl (by omega) (fun h14 => by omega) (fun _ => ?_)
              refine Rg.step 18 F_Mo_finds_17 rfl (fun _ => rfl) ?_
              refine Rg.step 19 F_Mo_finds_18 rfl (fun _ => rfl) ?_
              refine Rg.icneI 58 22 F_Mo_finds_19 rfl rfl (by omega) (by omega) (fun _ => ?_) (fun h19 => by omega)
              refine Rg.step 59 F_Mo_finds_58 rfl (fun _ => rfl) ?_
              refine Rg.getf 62 F_Mo_finds_59 rfl rF_26_175 (gM hp) rfl ?_
              refine Rg.step 63 F_Mo_finds_62 rfl (fun _ => rfl) ?_
              refine Rg.step 64 F_Mo_finds_63 rfl (fun _ => rfl) ?_
              refine Rg.ild 65 F_Mo_finds_64 rfl (gR_events hp) (by omega) (by decide) ?_
              refine Rg.step 66 F_Mo_finds_65 rfl (fun _ => rfl) ?_
              refine Rg.addI 67 F_Mo_finds_66 rfl ?_
              refine Rg.ist 68 F_Mo_finds_67 rfl (gR_events hp) (by decide) (sR_events hp) (by omega) (by decide) ?_
              refine Rg.step 69 F_Mo_finds_68 rfl (fun _ => rfl) ?_
              refine Rg.getf 72 F_Mo_finds_69 rfl rF_26_175 (gM hp) rfl ?_
              refine Rg.step 73 F_Mo_finds_72 rfl (fun _ => rfl) ?_
              refine Rg.ild 74 F_Mo_finds_73 rfl (gR_events hp) (by omega) (by decide) ?_
              refine Rg.bip 76 F_Mo_finds_74 rfl rfl ?_
              refine Rg.icleI 85 79 F_Mo_finds_76 rfl rfl (by omega) (by omega) (fun _ => ?_) (fun h76 => by omega)
              refine Rg.step 86 F_Mo_finds_85 rfl (fun _ => rfl) ?_
              refine Rg.step 87 F_Mo_finds_86 rfl (fun _ => rfl) ?_
              refine Rg.step 88 F_Mo_finds_87 rfl (fun _ => rfl) ?_
              refine Rg.addI 89 F_Mo_finds_88 rfl ?_
              refine Rg.call 92 F_Mo_finds_89 rfl (one_V rM_26_391 (by decide) (by simp) rfl rfl (gM hp) rfl) (Nat.le_of_ble_eq_true rfl) hte ?_
              refine Rg.ifeqP 13 95 F_Mo_finds_92 rfl rfl (fun h92 => absurd hY h92) (fun _ => ?_)
              refine Rg.inc 98 F_Mo_finds_95 rfl rfl (by decide) ?_
              refine Rg.step 99 F_Mo_finds_98 rfl (fun _ => rfl) ?_
              refine Rg.step 100 F_Mo_finds_99 rfl (fun _ => rfl) ?_
              refine Rg.icgeI 13 103 F_Mo_finds_100 rfl rfl (by omega) (by omega) (fun h100 => by omega) (fun _ => ?_)
              refine Rg.step 104 F_Mo_finds_103 rfl (fun _ => rfl) ?_
              refine Rg.getf 107 F_Mo_finds_104 rfl rF_26_175 (gM hp) rfl ?_
              refine Rg.step 108 F_Mo_finds_107 rfl (fun _ => rfl) ?_
              refine Rg.step 109 F_Mo_finds_108 rfl (fun _ => rfl) ?_
              refine Rg.ist 110 F_Mo_finds_109 rfl (gR_events hp) (by decide) (sR_events hp) (by omega) (by decide) ?_
              refine Rg.step 13 F_Mo_finds_110 rfl (fun _ => rfl) ?_
              exact Rg.weak ht (by simp [lput1, lput2, Value.category, fi0, fi1, fi2, fi3] <;> first | rfl | exact ⟨rfl, rfl⟩) (by simp [lput1, lput2, Value.category, fi0, fi1, fi2, fi3] <;> first | rfl | exact ⟨rfl, rfl⟩)
            · have hfc : fstC (fun c => findE (GoodE actions (fun S a t => fit needs needTime needOf needHow needN needD S.1 S.2.1 S.2.2 a t) (fun S a t => chAll changeTime changeOf changeHow changeN changeD t (changes a).toNat (6 * a) S) (fun S a => (lbN lastOf lastN lastD epsilonN epsilonD S.2.1 S.2.2 a, lbD lastOf lastN lastD epsilonN epsilonD S.2.1 S.2.2 a, gbN lastOf lastN lastD S.2.1 S.2.2 a, gbD lastOf lastN lastD S.2.1 S.2.2 a)) (fun S => goal wishes wants wantN wantD S.1 S.2.1 S.2.2) (fun a t b u => interf needs needTime needHow needOf lastOf changes changeTime changeHow changeOf a t b u) epsilonN epsilonD (firstFacts, firstN, firstD) many) n (a + 1) (up1 ev a c)) (q + 1) c = fstC (fun c => findE (GoodE actions (fun S a t => fit needs needTime needOf needHow needN needD S.1 S.2.1 S.2.2 a t) (fun S a t => chAll changeTime changeOf changeHow changeN changeD t (changes a).toNat (6 * a) S) (fun S a => (lbN lastOf lastN lastD epsilonN epsilonD S.2.1 S.2.2 a, lbD lastOf lastN lastD epsilonN epsilonD S.2.1 S.2.2 a, gbN lastOf lastN lastD S.2.1 S.2.2 a, gbD lastOf lastN lastD S.2.1 S.2.2 a)) (fun S => goal wishes wants wantN wantD S.1 S.2.1 S.2.2) (fun a t b u => interf needs needTime needHow needOf lastOf changes changeTime changeHow changeOf a t b u) epsilonN epsilonD (firstFacts, firstN, firstD) many) n (a + 1) (up1 ev a c)) q (c + 1) := by rw [fstC, f1]
              rw [hfc]
              have e8 : events8 a = c := by rw [z3 a ha2 (by omega), up1_eq]
              rw [show a + 1 + -1 = a by omega] at ht
              rcases ihq (c + 1) facts8 numN8 numD8 gone8 outN8 outD8 point8 leastN8 leastD8 greatestN8 greatestD8 oldFacts8 oldN8 oldD8 unit8 times8 tried8 triedRows8 triedAction8 triedRow8 events8 (by omega) (by omega) (by rw [e8]; omega) z2 (fun i y1 y2 => by rw [z3 i y1 (by omega), up1_ne _ _ (by omega)]) with ⟨ev9, y1, facts9, numN9, numD9, gone9, outN9, outD9, point9, leastN9, leastD9, greatestN9, greatestD9, oldFacts9, oldN9, oldD9, unit9, times9, tried9, triedRows9, triedAction9, triedRow9, events9, y2, y3, ht2⟩ | ⟨y1, facts9, numN9, numD9, gone9, outN9, outD9, point9, leastN9, leastD9, greatestN9, greatestD9, oldFacts9, oldN9, oldD9, unit9, times9, tried9, triedRows9, triedAction9, triedRow9, events9, y2, y3, ht2⟩
              · refine Or.inl ⟨ev9, y1, facts9, numN9, numD9, gone9, outN9, outD9, point9, leastN9, leastD9, greatestN9, greatestD9, oldFacts9, oldN9, oldD9, unit9, times9, tried9, triedRows9, triedAction9, triedRow9, events9, y2, y3, ?_⟩
                refine Rg.step 14 F_Mo_finds_13 rfl (fun _ => rfl) ?_
                refine Rg.ifltI 113 17 F_Mo_finds_14 rfl rfl (by omega) (fun h14 => by omega) (fun _ => ?_)
                refine Rg.step 18 F_Mo_finds_17 rfl (fun _ => rfl) ?_
                refine Rg.step 19 F_Mo_finds_18 rfl (fun _ => rfl) ?_
                refine Rg.icneI 58 22 F_Mo_finds_19 rfl rfl (by omega) (by omega) (fun _ => ?_) (fun h19 => by omega)
                refine Rg.step 59 F_Mo_finds_58 rfl (fun _ => rfl) ?_
                refine Rg.getf 62 F_Mo_finds_59 rfl rF_26_175 (gM hp) rfl ?_
                refine Rg.step 63 F_Mo_finds_62 rfl (fun _ => rfl) ?_
                refine Rg.step 64 F_Mo_finds_63 rfl (fun _ => rfl) ?_
                refine Rg.ild 65 F_Mo_finds_64 rfl (gR_events hp) (by omega) (by decide) ?_
                refine Rg.step 66 F_Mo_finds_65 rfl (fun _ => rfl) ?_
                refine Rg.addI 67 F_Mo_finds_66 rfl ?_
                refine Rg.ist 68 F_Mo_finds_67 rfl (gR_events hp) (by decide) (sR_events hp) (by omega) (by decide) ?_
                refine Rg.step 69 F_Mo_finds_68 rfl (fun _ => rfl) ?_
                refine Rg.getf 72 F_Mo_finds_69 rfl rF_26_175 (gM hp) rfl ?_
                refine Rg.step 73 F_Mo_finds_72 rfl (fun _ => rfl) ?_
                refine Rg.ild 74 F_Mo_finds_73 rfl (gR_events hp) (by omega) (by decide) ?_
                refine Rg.bip 76 F_Mo_finds_74 rfl rfl ?_
                refine Rg.icleI 85 79 F_Mo_finds_76 rfl rfl (by omega) (by omega) (fun _ => ?_) (fun h76 => by omega)
                refine Rg.step 86 F_Mo_finds_85 rfl (fun _ => rfl) ?_
                refine Rg.step 87 F_Mo_finds_86 rfl (fun _ => rfl) ?_
                refine Rg.step 88 F_Mo_finds_87 rfl (fun _ => rfl) ?_
                refine Rg.addI 89 F_Mo_finds_88 rfl ?_
                refine Rg.call 92 F_Mo_finds_89 rfl (one_V rM_26_391 (by decide) (by simp) rfl rfl (gM hp) rfl) (Nat.le_of_ble_eq_true rfl) hte ?_
                refine Rg.ifeqP 13 95 F_Mo_finds_92 rfl rfl (fun h92 => absurd hY h92) (fun _ => ?_)
                refine Rg.inc 98 F_Mo_finds_95 rfl rfl (by decide) ?_
                refine Rg.step 99 F_Mo_finds_98 rfl (fun _ => rfl) ?_
                refine Rg.step 100 F_Mo_finds_99 rfl (fun _ => rfl) ?_
                refine Rg.icgeI 13 103 F_Mo_finds_100 rfl rfl (by omega) (by omega) (fun h100 => by omega) (fun _ => ?_)
                refine Rg.step 104 F_Mo_finds_103 rfl (fun _ => rfl) ?_
                refine Rg.getf 107 F_Mo_finds_104 rfl rF_26_175 (gM hp) rfl ?_
                refine Rg.step 108 F_Mo_finds_107 rfl (fun _ => rfl) ?_
                refine Rg.step 109 F_Mo_finds_108 rfl (fun _ => rfl) ?_
                refine Rg.ist 110 F_Mo_finds_109 rfl (gR_events hp) (by decide) (sR_events hp) (by omega) (by decide) ?_
                refine Rg.step 13 F_Mo_finds_110 rfl (fun _ => rfl) ?_
                exact Rg.weak (ht _ _ ht2) (by simp [lput1, lput2, Value.category, fi0, fi1, fi2, fi3] <;> first | rfl | exact ⟨rfl, rfl⟩) (by simp [lput1, lput2, Value.category, fi0, fi1, fi2, fi3] <;> first | rfl | exact ⟨rfl, rfl⟩)
              · refine Or.inr ⟨y1, facts9, numN9, numD9, gone9, outN9, outD9, point9, leastN9, leastD9, greatestN9, greatestD9, oldFacts9, oldN9, oldD9, unit9, times9, tried9, triedRows9, triedAction9, triedRow9, events9, y2, y3, fun o mem1 hg => ?_⟩
                refine Rg.step 14 F_Mo_finds_13 rfl (fun _ => rfl) ?_
                refine Rg.ifltI 113 17 F_Mo_finds_14 rfl rfl (by omega) (fun h14 => by omega) (fun _ => ?_)
                refine Rg.step 18 F_Mo_finds_17 rfl (fun _ => rfl) ?_
                refine Rg.step 19 F_Mo_finds_18 rfl (fun _ => rfl) ?_
                refine Rg.icneI 58 22 F_Mo_finds_19 rfl rfl (by omega) (by omega) (fun _ => ?_) (fun h19 => by omega)
                refine Rg.step 59 F_Mo_finds_58 rfl (fun _ => rfl) ?_
                refine Rg.getf 62 F_Mo_finds_59 rfl rF_26_175 (gM hp) rfl ?_
                refine Rg.step 63 F_Mo_finds_62 rfl (fun _ => rfl) ?_
                refine Rg.step 64 F_Mo_finds_63 rfl (fun _ => rfl) ?_
                refine Rg.ild 65 F_Mo_finds_64 rfl (gR_events hp) (by omega) (by decide) ?_
                refine Rg.step 66 F_Mo_finds_65 rfl (fun _ => rfl) ?_
                refine Rg.addI 67 F_Mo_finds_66 rfl ?_
                refine Rg.ist 68 F_Mo_finds_67 rfl (gR_events hp) (by decide) (sR_events hp) (by omega) (by decide) ?_
                refine Rg.step 69 F_Mo_finds_68 rfl (fun _ => rfl) ?_
                refine Rg.getf 72 F_Mo_finds_69 rfl rF_26_175 (gM hp) rfl ?_
                refine Rg.step 73 F_Mo_finds_72 rfl (fun _ => rfl) ?_
                refine Rg.ild 74 F_Mo_finds_73 rfl (gR_events hp) (by omega) (by decide) ?_
                refine Rg.bip 76 F_Mo_finds_74 rfl rfl ?_
                refine Rg.icleI 85 79 F_Mo_finds_76 rfl rfl (by omega) (by omega) (fun _ => ?_) (fun h76 => by omega)
                refine Rg.step 86 F_Mo_finds_85 rfl (fun _ => rfl) ?_
                refine Rg.step 87 F_Mo_finds_86 rfl (fun _ => rfl) ?_
                refine Rg.step 88 F_Mo_finds_87 rfl (fun _ => rfl) ?_
                refine Rg.addI 89 F_Mo_finds_88 rfl ?_
                refine Rg.call 92 F_Mo_finds_89 rfl (one_V rM_26_391 (by decide) (by simp) rfl rfl (gM hp) rfl) (Nat.le_of_ble_eq_true rfl) hte ?_
                refine Rg.ifeqP 13 95 F_Mo_finds_92 rfl rfl (fun h92 => absurd hY h92) (fun _ => ?_)
                refine Rg.inc 98 F_Mo_finds_95 rfl rfl (by decide) ?_
                refine Rg.step 99 F_Mo_finds_98 rfl (fun _ => rfl) ?_
                refine Rg.step 100 F_Mo_finds_99 rfl (fun _ => rfl) ?_
                refine Rg.icgeI 13 103 F_Mo_finds_100 rfl rfl (by omega) (by omega) (fun h100 => by omega) (fun _ => ?_)
                refine Rg.step 104 F_Mo_finds_103 rfl (fun _ => rfl) ?_
                refine Rg.getf 107 F_Mo_finds_104 rfl rF_26_175 (gM hp) rfl ?_
                refine Rg.step 108 F_Mo_finds_107 rfl (fun _ => rfl) ?_
                refine Rg.step 109 F_Mo_finds_108 rfl (fun _ => rfl) ?_
                refine Rg.ist 110 F_Mo_finds_109 rfl (gR_events hp) (by decide) (sR_events hp) (by omega) (by decide) ?_
                refine Rg.step 13 F_Mo_finds_110 rfl (fun _ => rfl) ?_
                exact Rg.weak (ht _ _ (ht2 o mem1 hg)) (by simp [lput1, lput2, Value.category, fi0, fi1, fi2, fi3] <;> first | rfl | exact ⟨rfl, rfl⟩) (by simp [lput1, lput2, Value.category, fi0, fi1, fi2, fi3] <;> first | rfl | exact ⟨rfl, rfl⟩)
    exact key 15 0 facts0 numN0 numD0 gone0 outN0 outD0 point0 leastN0 leastD0 greatestN0 greatestD0 oldFacts0 oldN0 oldD0 unit0 times0 tried0 triedRows0 triedAction0 triedRow0 events0 (by omega) (by omega) (by rw [hm1 (by omega)]; omega) wT0 hag
theorem c_Mo_finds {d : Nat} (hp : pre.length = 168) (hw : WT epsilonN epsilonD wishes wants wantN wantD actions needs needTime needOf needHow needN needD changes changeTime changeOf changeHow changeN changeD lastOf lastN lastD firstN firstD) {many : Nat} (hm : many ≤ 6) (wT : ∀ s, 0 ≤ triedAction s ∧ triedAction s < 12) : (∃ ev', findE (GoodE actions (fun S a t => fit needs needTime needOf needHow needN needD S.1 S.2.1 S.2.2 a t) (fun S a t => chAll changeTime changeOf changeHow changeN changeD t (changes a).toNat (6 * a) S) (fun S a => (lbN lastOf lastN lastD epsilonN epsilonD S.2.1 S.2.2 a, lbD lastOf lastN lastD epsilonN epsilonD S.2.1 S.2.2 a, gbN lastOf lastN lastD S.2.1 S.2.2 a, gbD lastOf lastN lastD S.2.1 S.2.2 a)) (fun S => goal wishes wants wantN wantD S.1 S.2.1 S.2.2) (fun a t b u => interf needs needTime needHow needOf lastOf changes changeTime changeHow changeOf a t b u) epsilonN epsilonD (firstFacts, firstN, firstD) many) many 0 (fun _ => 0) = some ev' ∧ ∃ (facts1 : Int → Prop) (numN1 : Int → Int) (numD1 : Int → Int) (gone1 : Int → Prop) (outN1 : Int) (outD1 : Int) (point1 : Int) (leastN1 : Int → Int) (leastD1 : Int → Int) (greatestN1 : Int → Int) (greatestD1 : Int → Int) (oldFacts1 : Int → Prop) (oldN1 : Int → Int) (oldD1 : Int → Int) (unit1 : Int) (times1 : Int → Int) (tried1 : Int) (triedRows1 : Int) (triedAction1 : Int → Int) (triedRow1 : Int → Int) (events1 : Int → Int), (∀ s, 0 ≤ triedAction1 s ∧ triedAction1 s < 12) ∧ (∃ A T pt S1, evS actions ev' many 0 (0, 0, fun _ => 0, fun _ => 0) = some (tried1, triedRows1, A, T) ∧ triedRows1 = 2 * tried1 ∧ (0 ≤ tried1 ∧ tried1 ≤ 6) ∧ (∀ s, 0 ≤ s → s < tried1 → triedAction1 s = A s ∧ 0 ≤ A s ∧ A s < actions) ∧ (∀ i, 0 ≤ i → i < triedRows1 → triedRow1 i = T i ∧ 0 ≤ T i ∧ T i < 2 * tried1) ∧ (∀ i j, 0 ≤ i → i < j → j < triedRows1 → ¬ T i = T j) ∧ ArrA tried1 triedRows1 T A (fun S a t => fit needs needTime needOf needHow needN needD S.1 S.2.1 S.2.2 a t) (fun S a t => chAll changeTime changeOf changeHow changeN changeD t (changes a).toNat (6 * a) S) (fun S a => (lbN lastOf lastN lastD epsilonN epsilonD S.2.1 S.2.2 a, lbD lastOf lastN lastD epsilonN epsilonD S.2.1 S.2.2 a, gbN lastOf lastN lastD S.2.1 S.2.2 a, gbD lastOf lastN lastD S.2.1 S.2.2 a)) (fun S => goal wishes wants wantN wantD S.1 S.2.1 S.2.2) (fun a t b u => interf needs needTime needHow needOf lastOf changes changeTime changeHow changeOf a t b u) epsilonN epsilonD (firstFacts, firstN, firstD) 0 pt S1 unit1 times1 ∧ (0 < unit1 ∧ unit1 ≤ 100000) ∧ (∀ p, 0 ≤ p → p < 2 * tried1 → 0 ≤ times1 p ∧ times1 p ≤ 24000000000) ∧ ∀ s, 0 ≤ s → s < tried1 → times1 (2 * s) < times1 (2 * s + 1)) ∧ Cg false (d + 7) m_Mo_finds [.ref 168, .int (iI (many : Int))] (MR pre code amountN amountD momentN momentD epsilonN epsilonD firstFacts firstN firstD wishes wants wantN wantD actions needs needTime needOf needHow needN needD changes changeTime changeOf changeHow changeN changeD lastOf lastN lastD steps stepAction startN startD lengthN lengthD rows row tried triedAction triedRows triedRow times unit facts numN numD oldFacts oldN oldD point judged fault faultPoint toldFacts toldN toldD outN outD pointN pointD gone now leastN leastD greatestN greatestD events post) (.inl (some (.int (bP True)))) (MR pre code amountN amountD momentN momentD epsilonN epsilonD firstFacts firstN firstD wishes wants wantN wantD actions needs needTime needOf needHow needN needD changes changeTime changeOf changeHow changeN changeD lastOf lastN lastD steps stepAction startN startD lengthN lengthD rows row tried1 triedAction1 triedRows1 triedRow1 times1 unit1 facts1 numN1 numD1 oldFacts1 oldN1 oldD1 point1 judged fault faultPoint toldFacts toldN toldD outN1 outD1 pointN pointD gone1 now leastN1 leastD1 greatestN1 greatestD1 events1 post)) ∨ (findE (GoodE actions (fun S a t => fit needs needTime needOf needHow needN needD S.1 S.2.1 S.2.2 a t) (fun S a t => chAll changeTime changeOf changeHow changeN changeD t (changes a).toNat (6 * a) S) (fun S a => (lbN lastOf lastN lastD epsilonN epsilonD S.2.1 S.2.2 a, lbD lastOf lastN lastD epsilonN epsilonD S.2.1 S.2.2 a, gbN lastOf lastN lastD S.2.1 S.2.2 a, gbD lastOf lastN lastD S.2.1 S.2.2 a)) (fun S => goal wishes wants wantN wantD S.1 S.2.1 S.2.2) (fun a t b u => interf needs needTime needHow needOf lastOf changes changeTime changeHow changeOf a t b u) epsilonN epsilonD (firstFacts, firstN, firstD) many) many 0 (fun _ => 0) = none ∧ ∃ (facts1 : Int → Prop) (numN1 : Int → Int) (numD1 : Int → Int) (gone1 : Int → Prop) (outN1 : Int) (outD1 : Int) (point1 : Int) (leastN1 : Int → Int) (leastD1 : Int → Int) (greatestN1 : Int → Int) (greatestD1 : Int → Int) (oldFacts1 : Int → Prop) (oldN1 : Int → Int) (oldD1 : Int → Int) (unit1 : Int) (times1 : Int → Int) (tried1 : Int) (triedRows1 : Int) (triedAction1 : Int → Int) (triedRow1 : Int → Int) (events1 : Int → Int), (∀ s, 0 ≤ triedAction1 s ∧ triedAction1 s < 12) ∧ Cg false (d + 7) m_Mo_finds [.ref 168, .int (iI (many : Int))] (MR pre code amountN amountD momentN momentD epsilonN epsilonD firstFacts firstN firstD wishes wants wantN wantD actions needs needTime needOf needHow needN needD changes changeTime changeOf changeHow changeN changeD lastOf lastN lastD steps stepAction startN startD lengthN lengthD rows row tried triedAction triedRows triedRow times unit facts numN numD oldFacts oldN oldD point judged fault faultPoint toldFacts toldN toldD outN outD pointN pointD gone now leastN leastD greatestN greatestD events post) (.inl (some (.int (bP False)))) (MR pre code amountN amountD momentN momentD epsilonN epsilonD firstFacts firstN firstD wishes wants wantN wantD actions needs needTime needOf needHow needN needD changes changeTime changeOf changeHow changeN changeD lastOf lastN lastD steps stepAction startN startD lengthN lengthD rows row tried1 triedAction1 triedRows1 triedRow1 times1 unit1 facts1 numN1 numD1 oldFacts1 oldN1 oldD1 point1 judged fault faultPoint toldFacts toldN toldD outN1 outD1 pointN pointD gone1 now leastN1 leastD1 greatestN1 greatestD1 events1 post)) := by
  by_cases hn : many = 0
  · skip
    rcases fd_at (d := d) (n0 := (MR pre code amountN amountD momentN momentD epsilonN epsilonD firstFacts firstN firstD wishes wants wantN wantD actions needs needTime needOf needHow needN needD changes changeTime changeOf changeHow changeN changeD lastOf lastN lastD steps stepAction startN startD lengthN lengthD rows row tried triedAction triedRows triedRow times unit facts numN numD oldFacts oldN oldD point judged fault faultPoint toldFacts toldN toldD outN outD pointN pointD gone now leastN leastD greatestN greatestD events post).length) (pre := pre) (post := post) (code := code) (amountN := amountN) (amountD := amountD) (momentN := momentN) (momentD := momentD) (epsilonN := epsilonN) (epsilonD := epsilonD) (firstFacts := firstFacts) (firstN := firstN) (firstD := firstD) (wishes := wishes) (wants := wants) (wantN := wantN) (wantD := wantD) (actions := actions) (needs := needs) (needTime := needTime) (needOf := needOf) (needHow := needHow) (needN := needN) (needD := needD) (changes := changes) (changeTime := changeTime) (changeOf := changeOf) (changeHow := changeHow) (changeN := changeN) (changeD := changeD) (lastOf := lastOf) (lastN := lastN) (lastD := lastD) (steps := steps) (stepAction := stepAction) (startN := startN) (startD := startD) (lengthN := lengthN) (lengthD := lengthD) (rows := rows) (row := row) (judged := judged) (fault := fault) (faultPoint := faultPoint) (toldFacts := toldFacts) (toldN := toldN) (toldD := toldD) (pointN := pointN) (pointD := pointD) (now := now) hp hw hm many 0 (fun _ => 0) facts numN numD gone outN outD point leastN leastD greatestN greatestD oldFacts oldN oldD unit times tried triedRows triedAction triedRow events (by omega) (by omega) (fun z => absurd hn z) wT (fun i z1 z2 => by omega) (fun i z1 z2 => by omega) with ⟨ev', f1, facts1, numN1, numD1, gone1, outN1, outD1, point1, leastN1, leastD1, greatestN1, greatestD1, oldFacts1, oldN1, oldD1, unit1, times1, tried1, triedRows1, triedAction1, triedRow1, events1, z2, z3, ht⟩ | ⟨f1, facts1, numN1, numD1, gone1, outN1, outD1, point1, leastN1, leastD1, greatestN1, greatestD1, oldFacts1, oldN1, oldD1, unit1, times1, tried1, triedRows1, triedAction1, triedRow1, events1, z2, z3, ht⟩
    · refine Or.inl ⟨ev', f1, facts1, numN1, numD1, gone1, outN1, outD1, point1, leastN1, leastD1, greatestN1, greatestD1, oldFacts1, oldN1, oldD1, unit1, times1, tried1, triedRows1, triedAction1, triedRow1, events1, z2, z3, ?_⟩
      refine Cg.of (Nat.le_of_ble_eq_true rfl) ?_
      change Rg _ _ _ _ 0 [(0, .ref 168), (1, .int (iI (many : Int)))] [] _ _ _
      refine Rg.step 1 F_Mo_finds_0 rfl (fun _ => rfl) ?_
      refine Rg.step 2 F_Mo_finds_1 rfl (fun _ => rfl) ?_
      refine Rg.step 3 F_Mo_finds_2 rfl (fun _ => rfl) ?_
      refine Rg.ifleI 13 6 F_Mo_finds_3 rfl rfl (by omega) (fun _ => ?_) (fun h3 => by omega)
      exact Rg.weak ht (by simp [lput1, lput2, Value.category, fi0, fi1, fi2, fi3] <;> first | rfl | exact ⟨rfl, rfl⟩) (by simp [lput1, lput2, Value.category, fi0, fi1, fi2, fi3] <;> first | rfl | exact ⟨rfl, rfl⟩)
    · refine Or.inr ⟨f1, facts1, numN1, numD1, gone1, outN1, outD1, point1, leastN1, leastD1, greatestN1, greatestD1, oldFacts1, oldN1, oldD1, unit1, times1, tried1, triedRows1, triedAction1, triedRow1, events1, z2, ?_⟩
      refine Cg.of (Nat.le_of_ble_eq_true rfl) ?_
      change Rg _ _ _ _ 0 [(0, .ref 168), (1, .int (iI (many : Int)))] [] _ _ _
      refine Rg.step 1 F_Mo_finds_0 rfl (fun _ => rfl) ?_
      refine Rg.step 2 F_Mo_finds_1 rfl (fun _ => rfl) ?_
      refine Rg.step 3 F_Mo_finds_2 rfl (fun _ => rfl) ?_
      refine Rg.ifleI 13 6 F_Mo_finds_3 rfl rfl (by omega) (fun _ => ?_) (fun h3 => by omega)
      refine Rg.weak (ht _ _ ?_) (by simp [lput1, lput2, Value.category, fi0, fi1, fi2, fi3] <;> first | rfl | exact ⟨rfl, rfl⟩) (by simp [lput1, lput2, Value.category, fi0, fi1, fi2, fi3] <;> first | rfl | exact ⟨rfl, rfl⟩)
      refine Rg.step 14 F_Mo_finds_13 rfl (fun _ => rfl) ?_
      refine Rg.ifltI 113 17 F_Mo_finds_14 rfl rfl (by omega) (fun _ => ?_) (fun h14 => by omega)
      refine Rg.step 114 F_Mo_finds_113 rfl (fun _ => rfl) ?_
      exact Rg.ret0 F_Mo_finds_114 rfl (fun z => z) rfl
  · skip
    rcases fd_at (d := d) (n0 := (MR pre code amountN amountD momentN momentD epsilonN epsilonD firstFacts firstN firstD wishes wants wantN wantD actions needs needTime needOf needHow needN needD changes changeTime changeOf changeHow changeN changeD lastOf lastN lastD steps stepAction startN startD lengthN lengthD rows row tried triedAction triedRows triedRow times unit facts numN numD oldFacts oldN oldD point judged fault faultPoint toldFacts toldN toldD outN outD pointN pointD gone now leastN leastD greatestN greatestD events post).length) (pre := pre) (post := post) (code := code) (amountN := amountN) (amountD := amountD) (momentN := momentN) (momentD := momentD) (epsilonN := epsilonN) (epsilonD := epsilonD) (firstFacts := firstFacts) (firstN := firstN) (firstD := firstD) (wishes := wishes) (wants := wants) (wantN := wantN) (wantD := wantD) (actions := actions) (needs := needs) (needTime := needTime) (needOf := needOf) (needHow := needHow) (needN := needN) (needD := needD) (changes := changes) (changeTime := changeTime) (changeOf := changeOf) (changeHow := changeHow) (changeN := changeN) (changeD := changeD) (lastOf := lastOf) (lastN := lastN) (lastD := lastD) (steps := steps) (stepAction := stepAction) (startN := startN) (startD := startD) (lengthN := lengthN) (lengthD := lengthD) (rows := rows) (row := row) (judged := judged) (fault := fault) (faultPoint := faultPoint) (toldFacts := toldFacts) (toldN := toldN) (toldD := toldD) (pointN := pointN) (pointD := pointD) (now := now) hp hw hm many 0 (fun _ => 0) facts numN numD gone outN outD point leastN leastD greatestN greatestD oldFacts oldN oldD unit times tried triedRows triedAction triedRow (up1 events 0 (-1)) (by omega) (by omega) (fun _ => up1_eq _ _ _) wT (fun i z1 z2 => by omega) (fun i z1 z2 => by omega) with ⟨ev', f1, facts1, numN1, numD1, gone1, outN1, outD1, point1, leastN1, leastD1, greatestN1, greatestD1, oldFacts1, oldN1, oldD1, unit1, times1, tried1, triedRows1, triedAction1, triedRow1, events1, z2, z3, ht⟩ | ⟨f1, facts1, numN1, numD1, gone1, outN1, outD1, point1, leastN1, leastD1, greatestN1, greatestD1, oldFacts1, oldN1, oldD1, unit1, times1, tried1, triedRows1, triedAction1, triedRow1, events1, z2, z3, ht⟩
    · refine Or.inl ⟨ev', f1, facts1, numN1, numD1, gone1, outN1, outD1, point1, leastN1, leastD1, greatestN1, greatestD1, oldFacts1, oldN1, oldD1, unit1, times1, tried1, triedRows1, triedAction1, triedRow1, events1, z2, z3, ?_⟩
      refine Cg.of (Nat.le_of_ble_eq_true rfl) ?_
      change Rg _ _ _ _ 0 [(0, .ref 168), (1, .int (iI (many : Int)))] [] _ _ _
      refine Rg.step 1 F_Mo_finds_0 rfl (fun _ => rfl) ?_
      refine Rg.step 2 F_Mo_finds_1 rfl (fun _ => rfl) ?_
      refine Rg.step 3 F_Mo_finds_2 rfl (fun _ => rfl) ?_
      refine Rg.ifleI 13 6 F_Mo_finds_3 rfl rfl (by omega) (fun h3 => by omega) (fun _ => ?_)
      refine Rg.step 7 F_Mo_finds_6 rfl (fun _ => rfl) ?_
      refine Rg.getf 10 F_Mo_finds_7 rfl rF_26_175 (gM hp) rfl ?_
      refine Rg.step 11 F_Mo_finds_10 rfl (fun _ => rfl) ?_
      refine Rg.step 12 F_Mo_finds_11 rfl (fun _ => rfl) ?_
      refine Rg.ist 13 F_Mo_finds_12 rfl (gR_events hp) (by decide) (sR_events hp) (by omega) (by decide) ?_
      exact Rg.weak ht (by simp [lput1, lput2, Value.category, fi0, fi1, fi2, fi3] <;> first | rfl | exact ⟨rfl, rfl⟩) (by simp [lput1, lput2, Value.category, fi0, fi1, fi2, fi3] <;> first | rfl | exact ⟨rfl, rfl⟩)
    · refine Or.inr ⟨f1, facts1, numN1, numD1, gone1, outN1, outD1, point1, leastN1, leastD1, greatestN1, greatestD1, oldFacts1, oldN1, oldD1, unit1, times1, tried1, triedRows1, triedAction1, triedRow1, events1, z2, ?_⟩
      refine Cg.of (Nat.le_of_ble_eq_true rfl) ?_
      change Rg _ _ _ _ 0 [(0, .ref 168), (1, .int (iI (many : Int)))] [] _ _ _
      refine Rg.step 1 F_Mo_finds_0 rfl (fun _ => rfl) ?_
      refine Rg.step 2 F_Mo_finds_1 rfl (fun _ => rfl) ?_
      refine Rg.step 3 F_Mo_finds_2 rfl (fun _ => rfl) ?_
      refine Rg.ifleI 13 6 F_Mo_finds_3 rfl rfl (by omega) (fun h3 => by omega) (fun _ => ?_)
      refine Rg.step 7 F_Mo_finds_6 rfl (fun _ => rfl) ?_
      refine Rg.getf 10 F_Mo_finds_7 rfl rF_26_175 (gM hp) rfl ?_
      refine Rg.step 11 F_Mo_finds_10 rfl (fun _ => rfl) ?_
      refine Rg.step 12 F_Mo_finds_11 rfl (fun _ => rfl) ?_
      refine Rg.ist 13 F_Mo_finds_12 rfl (gR_events hp) (by decide) (sR_events hp) (by omega) (by decide) ?_
      refine Rg.weak (ht _ _ ?_) (by simp [lput1, lput2, Value.category, fi0, fi1, fi2, fi3] <;> first | rfl | exact ⟨rfl, rfl⟩) (by simp [lput1, lput2, Value.category, fi0, fi1, fi2, fi3] <;> first | rfl | exact ⟨rfl, rfl⟩)
      refine Rg.step 14 F_Mo_finds_13 rfl (fun _ => rfl) ?_
      refine Rg.ifltI 113 17 F_Mo_finds_14 rfl rfl (by omega) (fun _ => ?_) (fun h14 => by omega)
      refine Rg.step 114 F_Mo_finds_113 rfl (fun _ => rfl) ?_
      exact Rg.ret0 F_Mo_finds_114 rfl (fun z => z) rfl
theorem c_Mo_seek1 {d : Nat}  (hp : pre.length = 168) {most : Int} (b_0 : -2147483648 ≤ most ∧ most < 2147483648) (h : ¬ (0 ≤ most ∧ most ≤ 6)) : Cg false (d + 1) m_Mo_seek [.ref 168, .int (iI most)] (MR pre code amountN amountD momentN momentD epsilonN epsilonD firstFacts firstN firstD wishes wants wantN wantD actions needs needTime needOf needHow needN needD changes changeTime changeOf changeHow changeN changeD lastOf lastN lastD steps stepAction startN startD lengthN lengthD rows row tried triedAction triedRows triedRow times unit facts numN numD oldFacts oldN oldD point judged fault faultPoint toldFacts toldN toldD outN outD pointN pointD gone now leastN leastD greatestN greatestD events post) (.inl (some (.int (iI 0)))) (MR pre 1 amountN amountD momentN momentD epsilonN epsilonD firstFacts firstN firstD wishes wants wantN wantD actions needs needTime needOf needHow needN needD changes changeTime changeOf changeHow changeN changeD lastOf lastN lastD steps stepAction startN startD lengthN lengthD rows row tried triedAction triedRows triedRow times unit facts numN numD oldFacts oldN oldD point judged fault faultPoint toldFacts toldN toldD outN outD pointN pointD gone now leastN leastD greatestN greatestD events post) := by
  refine Cg.of (Nat.le_of_ble_eq_true rfl) ?_
  change Rg _ _ _ _ 0 [(0, .ref 168), (1, .int (iI most))] [] _ _ _
  refine Rg.step 1 F_Mo_seek_0 rfl (fun _ => rfl) ?_
  refine Rg.step 2 F_Mo_seek_1 rfl (fun _ => rfl) ?_
  refine Rg.step 3 F_Mo_seek_2 rfl (fun _ => rfl) ?_
  refine Rg.bip 5 F_Mo_seek_3 rfl rfl ?_
  refine Rg.call 8 F_Mo_seek_5 rfl (one_S (by decide +kernel) rM_26_200 (by decide) (by simp) rfl rfl) (Nat.le_of_ble_eq_true rfl) (Cg.any (c_Mo_in (by omega) (by omega) (by omega))) ?_
  refine Rg.ifeqP 15 11 F_Mo_seek_8 rfl rfl (fun _ => ?_) (fun h8 => by omega)
  refine Rg.step 16 F_Mo_seek_15 rfl (fun _ => rfl) ?_
  refine Rg.put 19 F_Mo_seek_16 rfl rF_26_178 (gM hp) (by decide) (Nat.le_of_ble_eq_true rfl) (Or.inl rfl) rfl (sM_code hp) ?_
  refine Rg.step 20 F_Mo_seek_19 rfl (fun _ => rfl) ?_
  refine Rg.getf 23 F_Mo_seek_20 rfl rF_26_178 (gM hp) rfl ?_
  refine Rg.ifle 28 26 F_Mo_seek_23 rfl rfl (fun h23 => absurd h23 (by decide)) (fun _ => ?_)
  refine Rg.step 27 F_Mo_seek_26 rfl (fun _ => rfl) ?_
  exact Rg.retI F_Mo_seek_27 rfl rfl rfl
theorem seek_loop {d n0 : Nat} (hp : pre.length = 168) (hw : WT epsilonN epsilonD wishes wants wantN wantD actions needs needTime needOf needHow needN needD changes changeTime changeOf changeHow changeN changeD lastOf lastN lastD firstN firstD) {most : Int} (hmo : 0 ≤ most ∧ most ≤ 6) : ∀ (n k : Nat) (facts0 : Int → Prop) (numN0 : Int → Int) (numD0 : Int → Int) (gone0 : Int → Prop) (outN0 : Int) (outD0 : Int) (point0 : Int) (leastN0 : Int → Int) (leastD0 : Int → Int) (greatestN0 : Int → Int) (greatestD0 : Int → Int) (oldFacts0 : Int → Prop) (oldN0 : Int → Int) (oldD0 : Int → Int) (unit0 : Int) (times0 : Int → Int) (tried0 : Int) (triedRows0 : Int) (triedAction0 : Int → Int) (triedRow0 : Int → Int) (events0 : Int → Int), k + n = 4 → (∀ s, 0 ≤ triedAction0 s ∧ triedAction0 s < 12) → (∃ (k1 : Nat) (ev' : Int → Int), k ≤ k1 ∧ 2 * (k1 : Int) ≤ most ∧ findE (GoodE actions (fun S a t => fit needs needTime needOf needHow needN needD S.1 S.2.1 S.2.2 a t) (fun S a t => chAll changeTime changeOf changeHow changeN changeD t (changes a).toNat (6 * a) S) (fun S a => (lbN lastOf lastN lastD epsilonN epsilonD S.2.1 S.2.2 a, lbD lastOf lastN lastD epsilonN epsilonD S.2.1 S.2.2 a, gbN lastOf lastN lastD S.2.1 S.2.2 a, gbD lastOf lastN lastD S.2.1 S.2.2 a)) (fun S => goal wishes wants wantN wantD S.1 S.2.1 S.2.2) (fun a t b u => interf needs needTime needHow needOf lastOf changes changeTime changeHow changeOf a t b u) epsilonN epsilonD (firstFacts, firstN, firstD) (2 * k1)) (2 * k1) 0 (fun _ => 0) = some ev' ∧ (∀ j : Nat, k ≤ j → j < k1 → findE (GoodE actions (fun S a t => fit needs needTime needOf needHow needN needD S.1 S.2.1 S.2.2 a t) (fun S a t => chAll changeTime changeOf changeHow changeN changeD t (changes a).toNat (6 * a) S) (fun S a => (lbN lastOf lastN lastD epsilonN epsilonD S.2.1 S.2.2 a, lbD lastOf lastN lastD epsilonN epsilonD S.2.1 S.2.2 a, gbN lastOf lastN lastD S.2.1 S.2.2 a, gbD lastOf lastN lastD S.2.1 S.2.2 a)) (fun S => goal wishes wants wantN wantD S.1 S.2.1 S.2.2) (fun a t b u => interf needs needTime needHow needOf lastOf changes changeTime changeHow changeOf a t b u) epsilonN epsilonD (firstFacts, firstN, firstD) (2 * j)) (2 * j) 0 (fun _ => 0) = none) ∧ ∃ (facts1 : Int → Prop) (numN1 : Int → Int) (numD1 : Int → Int) (gone1 : Int → Prop) (outN1 : Int) (outD1 : Int) (point1 : Int) (leastN1 : Int → Int) (leastD1 : Int → Int) (greatestN1 : Int → Int) (greatestD1 : Int → Int) (oldFacts1 : Int → Prop) (oldN1 : Int → Int) (oldD1 : Int → Int) (unit1 : Int) (times1 : Int → Int) (tried1 : Int) (triedRows1 : Int) (triedAction1 : Int → Int) (triedRow1 : Int → Int) (events1 : Int → Int), (∀ s, 0 ≤ triedAction1 s ∧ triedAction1 s < 12) ∧ (∃ A T pt S1, evS actions ev' (2 * k1) 0 (0, 0, fun _ => 0, fun _ => 0) = some (tried1, triedRows1, A, T) ∧ triedRows1 = 2 * tried1 ∧ (0 ≤ tried1 ∧ tried1 ≤ 6) ∧ (∀ s, 0 ≤ s → s < tried1 → triedAction1 s = A s ∧ 0 ≤ A s ∧ A s < actions) ∧ (∀ i, 0 ≤ i → i < triedRows1 → triedRow1 i = T i ∧ 0 ≤ T i ∧ T i < 2 * tried1) ∧ (∀ i j, 0 ≤ i → i < j → j < triedRows1 → ¬ T i = T j) ∧ ArrA tried1 triedRows1 T A (fun S a t => fit needs needTime needOf needHow needN needD S.1 S.2.1 S.2.2 a t) (fun S a t => chAll changeTime changeOf changeHow changeN changeD t (changes a).toNat (6 * a) S) (fun S a => (lbN lastOf lastN lastD epsilonN epsilonD S.2.1 S.2.2 a, lbD lastOf lastN lastD epsilonN epsilonD S.2.1 S.2.2 a, gbN lastOf lastN lastD S.2.1 S.2.2 a, gbD lastOf lastN lastD S.2.1 S.2.2 a)) (fun S => goal wishes wants wantN wantD S.1 S.2.1 S.2.2) (fun a t b u => interf needs needTime needHow needOf lastOf changes changeTime changeHow changeOf a t b u) epsilonN epsilonD (firstFacts, firstN, firstD) 0 pt S1 unit1 times1 ∧ (0 < unit1 ∧ unit1 ≤ 100000) ∧ (∀ p, 0 ≤ p → p < 2 * tried1 → 0 ≤ times1 p ∧ times1 p ≤ 24000000000) ∧ ∀ s, 0 ≤ s → s < tried1 → times1 (2 * s) < times1 (2 * s + 1)) ∧ ∃ x9 y9, Rg false (d + 8) m_Mo_seek n0 30 [(2, .int (iI (2 * (k : Int)))), (1, .int (iI most)), (0, .ref 168)] [] (MR pre code amountN amountD momentN momentD epsilonN epsilonD firstFacts firstN firstD wishes wants wantN wantD actions needs needTime needOf needHow needN needD changes changeTime changeOf changeHow changeN changeD lastOf lastN lastD steps stepAction startN startD lengthN lengthD rows row tried0 triedAction0 triedRows0 triedRow0 times0 unit0 facts0 numN0 numD0 oldFacts0 oldN0 oldD0 point0 judged fault faultPoint toldFacts toldN toldD outN0 outD0 pointN pointD gone0 now leastN0 leastD0 greatestN0 greatestD0 events0 post) (.inl (some (.int (iI (2 * (k1 : Int)))))) (MR pre code amountN amountD momentN momentD epsilonN epsilonD firstFacts firstN firstD wishes wants wantN wantD actions needs needTime needOf needHow needN needD changes changeTime changeOf changeHow changeN changeD lastOf lastN lastD tried1 (mix tried1 triedAction1 stepAction) (mix tried1 (fun s => nN (times1 (2 * s)) unit1) startN) (mix tried1 (fun s => nD (times1 (2 * s)) unit1) startD) (mix tried1 (fun s => nN (times1 (2 * s + 1) - times1 (2 * s)) unit1) lengthN) (mix tried1 (fun s => nD (times1 (2 * s + 1) - times1 (2 * s)) unit1) lengthD) triedRows1 (mix triedRows1 triedRow1 row) tried1 triedAction1 triedRows1 triedRow1 times1 unit1 facts1 numN1 numD1 oldFacts1 oldN1 oldD1 point1 judged fault faultPoint toldFacts toldN toldD x9 y9 pointN pointD gone1 now leastN1 leastD1 greatestN1 greatestD1 events1 post)) ∨ ((∀ j : Nat, k ≤ j → 2 * (j : Int) ≤ most → findE (GoodE actions (fun S a t => fit needs needTime needOf needHow needN needD S.1 S.2.1 S.2.2 a t) (fun S a t => chAll changeTime changeOf changeHow changeN changeD t (changes a).toNat (6 * a) S) (fun S a => (lbN lastOf lastN lastD epsilonN epsilonD S.2.1 S.2.2 a, lbD lastOf lastN lastD epsilonN epsilonD S.2.1 S.2.2 a, gbN lastOf lastN lastD S.2.1 S.2.2 a, gbD lastOf lastN lastD S.2.1 S.2.2 a)) (fun S => goal wishes wants wantN wantD S.1 S.2.1 S.2.2) (fun a t b u => interf needs needTime needHow needOf lastOf changes changeTime changeHow changeOf a t b u) epsilonN epsilonD (firstFacts, firstN, firstD) (2 * j)) (2 * j) 0 (fun _ => 0) = none) ∧ ∃ (facts1 : Int → Prop) (numN1 : Int → Int) (numD1 : Int → Int) (gone1 : Int → Prop) (outN1 : Int) (outD1 : Int) (point1 : Int) (leastN1 : Int → Int) (leastD1 : Int → Int) (greatestN1 : Int → Int) (greatestD1 : Int → Int) (oldFacts1 : Int → Prop) (oldN1 : Int → Int) (oldD1 : Int → Int) (unit1 : Int) (times1 : Int → Int) (tried1 : Int) (triedRows1 : Int) (triedAction1 : Int → Int) (triedRow1 : Int → Int) (events1 : Int → Int), (∀ s, 0 ≤ triedAction1 s ∧ triedAction1 s < 12) ∧ Rg false (d + 8) m_Mo_seek n0 30 [(2, .int (iI (2 * (k : Int)))), (1, .int (iI most)), (0, .ref 168)] [] (MR pre code amountN amountD momentN momentD epsilonN epsilonD firstFacts firstN firstD wishes wants wantN wantD actions needs needTime needOf needHow needN needD changes changeTime changeOf changeHow changeN changeD lastOf lastN lastD steps stepAction startN startD lengthN lengthD rows row tried0 triedAction0 triedRows0 triedRow0 times0 unit0 facts0 numN0 numD0 oldFacts0 oldN0 oldD0 point0 judged fault faultPoint toldFacts toldN toldD outN0 outD0 pointN pointD gone0 now leastN0 leastD0 greatestN0 greatestD0 events0 post) (.inl (some (.int (iI (-1))))) (MR pre code amountN amountD momentN momentD epsilonN epsilonD firstFacts firstN firstD wishes wants wantN wantD actions needs needTime needOf needHow needN needD changes changeTime changeOf changeHow changeN changeD lastOf lastN lastD steps stepAction startN startD lengthN lengthD rows row tried1 triedAction1 triedRows1 triedRow1 times1 unit1 facts1 numN1 numD1 oldFacts1 oldN1 oldD1 point1 judged fault faultPoint toldFacts toldN toldD outN1 outD1 pointN pointD gone1 now leastN1 leastD1 greatestN1 greatestD1 events1 post)) := by
  intro n
  induction n with
  | zero =>
    intro k facts0 numN0 numD0 gone0 outN0 outD0 point0 leastN0 leastD0 greatestN0 greatestD0 oldFacts0 oldN0 oldD0 unit0 times0 tried0 triedRows0 triedAction0 triedRow0 events0 hk wT0
    refine Or.inr ⟨fun j z1 z2 => by omega, facts0, numN0, numD0, gone0, outN0, outD0, point0, leastN0, leastD0, greatestN0, greatestD0, oldFacts0, oldN0, oldD0, unit0, times0, tried0, triedRows0, triedAction0, triedRow0, events0, wT0, ?_⟩
    refine Rg.step 31 F_Mo_seek_30 rfl (fun _ => rfl) ?_
    refine Rg.step 32 F_Mo_seek_31 rfl (fun _ => rfl) ?_
    refine Rg.icgtI 58 35 F_Mo_seek_32 rfl rfl (by omega) (by omega) (fun _ => ?_) (fun h32 => by omega)
    refine Rg.step 59 F_Mo_seek_58 rfl (fun _ => rfl) ?_
    exact Rg.retI F_Mo_seek_59 rfl rfl rfl
  | succ n ih =>
    intro k facts0 numN0 numD0 gone0 outN0 outD0 point0 leastN0 leastD0 greatestN0 greatestD0 oldFacts0 oldN0 oldD0 unit0 times0 tried0 triedRows0 triedAction0 triedRow0 events0 hk wT0
    by_cases hle : 2 * (k : Int) ≤ most
    · have ecast : ((2 * k : Nat) : Int) = 2 * (k : Int) := by omega
      have hfd := c_Mo_finds (d := d) (many := 2 * k) (pre := pre) (post := post) (code := code) (amountN := amountN) (amountD := amountD) (momentN := momentN) (momentD := momentD) (epsilonN := epsilonN) (epsilonD := epsilonD) (firstFacts := firstFacts) (firstN := firstN) (firstD := firstD) (wishes := wishes) (wants := wants) (wantN := wantN) (wantD := wantD) (actions := actions) (needs := needs) (needTime := needTime) (needOf := needOf) (needHow := needHow) (needN := needN) (needD := needD) (changes := changes) (changeTime := changeTime) (changeOf := changeOf) (changeHow := changeHow) (changeN := changeN) (changeD := changeD) (lastOf := lastOf) (lastN := lastN) (lastD := lastD) (steps := steps) (stepAction := stepAction) (startN := startN) (startD := startD) (lengthN := lengthN) (lengthD := lengthD) (rows := rows) (row := row) (tried := tried0) (triedAction := triedAction0) (triedRows := triedRows0) (triedRow := triedRow0) (times := times0) (unit := unit0) (facts := facts0) (numN := numN0) (numD := numD0) (oldFacts := oldFacts0) (oldN := oldN0) (oldD := oldD0) (point := point0) (judged := judged) (fault := fault) (faultPoint := faultPoint) (toldFacts := toldFacts) (toldN := toldN) (toldD := toldD) (outN := outN0) (outD := outD0) (pointN := pointN) (pointD := pointD) (gone := gone0) (now := now) (leastN := leastN0) (leastD := leastD0) (greatestN := greatestN0) (greatestD := greatestD0) (events := events0) hp hw (by omega) wT0
      rw [ecast] at hfd
      rcases hfd with ⟨ev', f1, facts1, numN1, numD1, gone1, outN1, outD1, point1, leastN1, leastD1, greatestN1, greatestD1, oldFacts1, oldN1, oldD1, unit1, times1, tried1, triedRows1, triedAction1, triedRow1, events1, z2, z3, hc⟩ | ⟨f1, facts1, numN1, numD1, gone1, outN1, outD1, point1, leastN1, leastD1, greatestN1, greatestD1, oldFacts1, oldN1, oldD1, unit1, times1, tried1, triedRows1, triedAction1, triedRow1, events1, z2, hc⟩
      · have z3' := z3
        obtain ⟨A, T, pt, S1, r1, r2, r3, r4, r5, r6, r7, r8, r9, r10⟩ := z3
        obtain ⟨x9, y9, htt⟩ := c_Mo_takeTried (d := d + 4) (pre := pre) (post := post) (code := code) (amountN := amountN) (amountD := amountD) (momentN := momentN) (momentD := momentD) (epsilonN := epsilonN) (epsilonD := epsilonD) (firstFacts := firstFacts) (firstN := firstN) (firstD := firstD) (wishes := wishes) (wants := wants) (wantN := wantN) (wantD := wantD) (actions := actions) (needs := needs) (needTime := needTime) (needOf := needOf) (needHow := needHow) (needN := needN) (needD := needD) (changes := changes) (changeTime := changeTime) (changeOf := changeOf) (changeHow := changeHow) (changeN := changeN) (changeD := changeD) (lastOf := lastOf) (lastN := lastN) (lastD := lastD) (steps := steps) (stepAction := stepAction) (startN := startN) (startD := startD) (lengthN := lengthN) (lengthD := lengthD) (rows := rows) (row := row) (tried := tried1) (triedAction := triedAction1) (triedRows := triedRows1) (triedRow := triedRow1) (times := times1) (unit := unit1) (facts := facts1) (numN := numN1) (numD := numD1) (oldFacts := oldFacts1) (oldN := oldN1) (oldD := oldD1) (point := point1) (judged := judged) (fault := fault) (faultPoint := faultPoint) (toldFacts := toldFacts) (toldN := toldN) (toldD := toldD) (outN := outN1) (outD := outD1) (pointN := pointN) (pointD := pointD) (gone := gone1) (now := now) (leastN := leastN1) (leastD := leastD1) (greatestN := greatestN1) (greatestD := greatestD1) (events := events1) hp (by omega) (by omega) r8 r9
        refine Or.inl ⟨k, ev', Nat.le_refl _, hle, f1, fun j y1 y2 => by omega, facts1, numN1, numD1, gone1, outN1, outD1, point1, leastN1, leastD1, greatestN1, greatestD1, oldFacts1, oldN1, oldD1, unit1, times1, tried1, triedRows1, triedAction1, triedRow1, events1, z2, z3', x9, y9, ?_⟩
        refine Rg.step 31 F_Mo_seek_30 rfl (fun _ => rfl) ?_
        refine Rg.step 32 F_Mo_seek_31 rfl (fun _ => rfl) ?_
        refine Rg.icgtI 58 35 F_Mo_seek_32 rfl rfl (by omega) (by omega) (fun h32 => by omega) (fun _ => ?_)
        refine Rg.step 36 F_Mo_seek_35 rfl (fun _ => rfl) ?_
        refine Rg.step 37 F_Mo_seek_36 rfl (fun _ => rfl) ?_
        refine Rg.call 40 F_Mo_seek_37 rfl (one_V rM_26_394 (by decide) (by simp) rfl rfl (gM hp) rfl) (Nat.le_of_ble_eq_true rfl) hc ?_
        refine Rg.ifneP 46 43 F_Mo_seek_40 rfl rfl (fun _ => ?_) (fun h40 => absurd trivial h40)
        refine Rg.step 47 F_Mo_seek_46 rfl (fun _ => rfl) ?_
        refine Rg.call 50 F_Mo_seek_47 rfl (one_V rM_26_388 (by decide) (by simp) rfl rfl (gM hp) rfl) (Nat.le_of_ble_eq_true rfl) htt ?_
        refine Rg.step 51 F_Mo_seek_50 rfl (fun _ => rfl) ?_
        exact Rg.retI F_Mo_seek_51 rfl rfl rfl
      · have hx : ∀ j : Nat, k ≤ j → ¬ k + 1 ≤ j → findE (GoodE actions (fun S a t => fit needs needTime needOf needHow needN needD S.1 S.2.1 S.2.2 a t) (fun S a t => chAll changeTime changeOf changeHow changeN changeD t (changes a).toNat (6 * a) S) (fun S a => (lbN lastOf lastN lastD epsilonN epsilonD S.2.1 S.2.2 a, lbD lastOf lastN lastD epsilonN epsilonD S.2.1 S.2.2 a, gbN lastOf lastN lastD S.2.1 S.2.2 a, gbD lastOf lastN lastD S.2.1 S.2.2 a)) (fun S => goal wishes wants wantN wantD S.1 S.2.1 S.2.2) (fun a t b u => interf needs needTime needHow needOf lastOf changes changeTime changeHow changeOf a t b u) epsilonN epsilonD (firstFacts, firstN, firstD) (2 * j)) (2 * j) 0 (fun _ => 0) = none := fun j y1 y2 => by
          have e : j = k := by omega
          rw [e]; exact f1
        rcases ih (k + 1) facts1 numN1 numD1 gone1 outN1 outD1 point1 leastN1 leastD1 greatestN1 greatestD1 oldFacts1 oldN1 oldD1 unit1 times1 tried1 triedRows1 triedAction1 triedRow1 events1 (by omega) z2 with ⟨k1, ev', y1, y2, y3, y4, facts2, numN2, numD2, gone2, outN2, outD2, point2, leastN2, leastD2, greatestN2, greatestD2, oldFacts2, oldN2, oldD2, unit2, times2, tried2, triedRows2, triedAction2, triedRow2, events2, y5, y6, x9, y9, ht⟩ | ⟨y1, facts2, numN2, numD2, gone2, outN2, outD2, point2, leastN2, leastD2, greatestN2, greatestD2, oldFacts2, oldN2, oldD2, unit2, times2, tried2, triedRows2, triedAction2, triedRow2, events2, y2, ht⟩
        · refine Or.inl ⟨k1, ev', by omega, y2, y3, fun j w1 w2 => ?_, facts2, numN2, numD2, gone2, outN2, outD2, point2, leastN2, leastD2, greatestN2, greatestD2, oldFacts2, oldN2, oldD2, unit2, times2, tried2, triedRows2, triedAction2, triedRow2, events2, y5, y6, x9, y9, ?_⟩
          · by_cases hj : k + 1 ≤ j
            · exact y4 j hj w2
            · exact hx j w1 hj
          · skip
            refine Rg.step 31 F_Mo_seek_30 rfl (fun _ => rfl) ?_
            refine Rg.step 32 F_Mo_seek_31 rfl (fun _ => rfl) ?_
            refine Rg.icgtI 58 35 F_Mo_seek_32 rfl rfl (by omega) (by omega) (fun h32 => by omega) (fun _ => ?_)
            refine Rg.step 36 F_Mo_seek_35 rfl (fun _ => rfl) ?_
            refine Rg.step 37 F_Mo_seek_36 rfl (fun _ => rfl) ?_
            refine Rg.call 40 F_Mo_seek_37 rfl (one_V rM_26_394 (by decide) (by simp) rfl rfl (gM hp) rfl) (Nat.le_of_ble_eq_true rfl) hc ?_
            refine Rg.ifneP 46 43 F_Mo_seek_40 rfl rfl (fun h40 => absurd h40 (fun z => z)) (fun _ => ?_)
            refine Rg.step 52 F_Mo_seek_43 rfl (fun _ => rfl) ?_
            refine Rg.inc 55 F_Mo_seek_52 rfl rfl (by decide) ?_
            refine Rg.step 30 F_Mo_seek_55 rfl (fun _ => rfl) ?_
            rw [show 2 * (((k + 1 : Nat)) : Int) = 2 * (k : Int) + 2 by omega] at ht
            exact Rg.weak ht (by simp [lput1, lput2, Value.category, fi0, fi1, fi2, fi3] <;> first | rfl | exact ⟨rfl, rfl⟩) (by simp [lput1, lput2, Value.category, fi0, fi1, fi2, fi3] <;> first | rfl | exact ⟨rfl, rfl⟩)
        · refine Or.inr ⟨fun j w1 w2 => ?_, facts2, numN2, numD2, gone2, outN2, outD2, point2, leastN2, leastD2, greatestN2, greatestD2, oldFacts2, oldN2, oldD2, unit2, times2, tried2, triedRows2, triedAction2, triedRow2, events2, y2, ?_⟩
          · by_cases hj : k + 1 ≤ j
            · exact y1 j hj w2
            · exact hx j w1 hj
          · skip
            refine Rg.step 31 F_Mo_seek_30 rfl (fun _ => rfl) ?_
            refine Rg.step 32 F_Mo_seek_31 rfl (fun _ => rfl) ?_
            refine Rg.icgtI 58 35 F_Mo_seek_32 rfl rfl (by omega) (by omega) (fun h32 => by omega) (fun _ => ?_)
            refine Rg.step 36 F_Mo_seek_35 rfl (fun _ => rfl) ?_
            refine Rg.step 37 F_Mo_seek_36 rfl (fun _ => rfl) ?_
            refine Rg.call 40 F_Mo_seek_37 rfl (one_V rM_26_394 (by decide) (by simp) rfl rfl (gM hp) rfl) (Nat.le_of_ble_eq_true rfl) hc ?_
            refine Rg.ifneP 46 43 F_Mo_seek_40 rfl rfl (fun h40 => absurd h40 (fun z => z)) (fun _ => ?_)
            refine Rg.step 52 F_Mo_seek_43 rfl (fun _ => rfl) ?_
            refine Rg.inc 55 F_Mo_seek_52 rfl rfl (by decide) ?_
            refine Rg.step 30 F_Mo_seek_55 rfl (fun _ => rfl) ?_
            rw [show 2 * (((k + 1 : Nat)) : Int) = 2 * (k : Int) + 2 by omega] at ht
            exact Rg.weak ht (by simp [lput1, lput2, Value.category, fi0, fi1, fi2, fi3] <;> first | rfl | exact ⟨rfl, rfl⟩) (by simp [lput1, lput2, Value.category, fi0, fi1, fi2, fi3] <;> first | rfl | exact ⟨rfl, rfl⟩)
    · refine Or.inr ⟨fun j z1 z2 => by omega, facts0, numN0, numD0, gone0, outN0, outD0, point0, leastN0, leastD0, greatestN0, greatestD0, oldFacts0, oldN0, oldD0, unit0, times0, tried0, triedRows0, triedAction0, triedRow0, events0, wT0, ?_⟩
      refine Rg.step 31 F_Mo_seek_30 rfl (fun _ => rfl) ?_
      refine Rg.step 32 F_Mo_seek_31 rfl (fun _ => rfl) ?_
      refine Rg.icgtI 58 35 F_Mo_seek_32 rfl rfl (by omega) (by omega) (fun _ => ?_) (fun h32 => by omega)
      refine Rg.step 59 F_Mo_seek_58 rfl (fun _ => rfl) ?_
      exact Rg.retI F_Mo_seek_59 rfl rfl rfl
theorem c_Mo_seek {d : Nat} (hp : pre.length = 168) (hw : WT epsilonN epsilonD wishes wants wantN wantD actions needs needTime needOf needHow needN needD changes changeTime changeOf changeHow changeN changeD lastOf lastN lastD firstN firstD) {most : Int} (hmo : 0 ≤ most ∧ most ≤ 6) (wT : ∀ s, 0 ≤ triedAction s ∧ triedAction s < 12) : (∃ (k1 : Nat) (ev' : Int → Int), 0 ≤ k1 ∧ 2 * (k1 : Int) ≤ most ∧ findE (GoodE actions (fun S a t => fit needs needTime needOf needHow needN needD S.1 S.2.1 S.2.2 a t) (fun S a t => chAll changeTime changeOf changeHow changeN changeD t (changes a).toNat (6 * a) S) (fun S a => (lbN lastOf lastN lastD epsilonN epsilonD S.2.1 S.2.2 a, lbD lastOf lastN lastD epsilonN epsilonD S.2.1 S.2.2 a, gbN lastOf lastN lastD S.2.1 S.2.2 a, gbD lastOf lastN lastD S.2.1 S.2.2 a)) (fun S => goal wishes wants wantN wantD S.1 S.2.1 S.2.2) (fun a t b u => interf needs needTime needHow needOf lastOf changes changeTime changeHow changeOf a t b u) epsilonN epsilonD (firstFacts, firstN, firstD) (2 * k1)) (2 * k1) 0 (fun _ => 0) = some ev' ∧ (∀ j : Nat, 0 ≤ j → j < k1 → findE (GoodE actions (fun S a t => fit needs needTime needOf needHow needN needD S.1 S.2.1 S.2.2 a t) (fun S a t => chAll changeTime changeOf changeHow changeN changeD t (changes a).toNat (6 * a) S) (fun S a => (lbN lastOf lastN lastD epsilonN epsilonD S.2.1 S.2.2 a, lbD lastOf lastN lastD epsilonN epsilonD S.2.1 S.2.2 a, gbN lastOf lastN lastD S.2.1 S.2.2 a, gbD lastOf lastN lastD S.2.1 S.2.2 a)) (fun S => goal wishes wants wantN wantD S.1 S.2.1 S.2.2) (fun a t b u => interf needs needTime needHow needOf lastOf changes changeTime changeHow changeOf a t b u) epsilonN epsilonD (firstFacts, firstN, firstD) (2 * j)) (2 * j) 0 (fun _ => 0) = none) ∧ ∃ (facts1 : Int → Prop) (numN1 : Int → Int) (numD1 : Int → Int) (gone1 : Int → Prop) (outN1 : Int) (outD1 : Int) (point1 : Int) (leastN1 : Int → Int) (leastD1 : Int → Int) (greatestN1 : Int → Int) (greatestD1 : Int → Int) (oldFacts1 : Int → Prop) (oldN1 : Int → Int) (oldD1 : Int → Int) (unit1 : Int) (times1 : Int → Int) (tried1 : Int) (triedRows1 : Int) (triedAction1 : Int → Int) (triedRow1 : Int → Int) (events1 : Int → Int), (∀ s, 0 ≤ triedAction1 s ∧ triedAction1 s < 12) ∧ (∃ A T pt S1, evS actions ev' (2 * k1) 0 (0, 0, fun _ => 0, fun _ => 0) = some (tried1, triedRows1, A, T) ∧ triedRows1 = 2 * tried1 ∧ (0 ≤ tried1 ∧ tried1 ≤ 6) ∧ (∀ s, 0 ≤ s → s < tried1 → triedAction1 s = A s ∧ 0 ≤ A s ∧ A s < actions) ∧ (∀ i, 0 ≤ i → i < triedRows1 → triedRow1 i = T i ∧ 0 ≤ T i ∧ T i < 2 * tried1) ∧ (∀ i j, 0 ≤ i → i < j → j < triedRows1 → ¬ T i = T j) ∧ ArrA tried1 triedRows1 T A (fun S a t => fit needs needTime needOf needHow needN needD S.1 S.2.1 S.2.2 a t) (fun S a t => chAll changeTime changeOf changeHow changeN changeD t (changes a).toNat (6 * a) S) (fun S a => (lbN lastOf lastN lastD epsilonN epsilonD S.2.1 S.2.2 a, lbD lastOf lastN lastD epsilonN epsilonD S.2.1 S.2.2 a, gbN lastOf lastN lastD S.2.1 S.2.2 a, gbD lastOf lastN lastD S.2.1 S.2.2 a)) (fun S => goal wishes wants wantN wantD S.1 S.2.1 S.2.2) (fun a t b u => interf needs needTime needHow needOf lastOf changes changeTime changeHow changeOf a t b u) epsilonN epsilonD (firstFacts, firstN, firstD) 0 pt S1 unit1 times1 ∧ (0 < unit1 ∧ unit1 ≤ 100000) ∧ (∀ p, 0 ≤ p → p < 2 * tried1 → 0 ≤ times1 p ∧ times1 p ≤ 24000000000) ∧ ∀ s, 0 ≤ s → s < tried1 → times1 (2 * s) < times1 (2 * s + 1)) ∧ ∃ x9 y9, Cg false (d + 8) m_Mo_seek [.ref 168, .int (iI most)] (MR pre code amountN amountD momentN momentD epsilonN epsilonD firstFacts firstN firstD wishes wants wantN wantD actions needs needTime needOf needHow needN needD changes changeTime changeOf changeHow changeN changeD lastOf lastN lastD steps stepAction startN startD lengthN lengthD rows row tried triedAction triedRows triedRow times unit facts numN numD oldFacts oldN oldD point judged fault faultPoint toldFacts toldN toldD outN outD pointN pointD gone now leastN leastD greatestN greatestD events post) (.inl (some (.int (iI (2 * (k1 : Int)))))) (MR pre 0 amountN amountD momentN momentD epsilonN epsilonD firstFacts firstN firstD wishes wants wantN wantD actions needs needTime needOf needHow needN needD changes changeTime changeOf changeHow changeN changeD lastOf lastN lastD tried1 (mix tried1 triedAction1 stepAction) (mix tried1 (fun s => nN (times1 (2 * s)) unit1) startN) (mix tried1 (fun s => nD (times1 (2 * s)) unit1) startD) (mix tried1 (fun s => nN (times1 (2 * s + 1) - times1 (2 * s)) unit1) lengthN) (mix tried1 (fun s => nD (times1 (2 * s + 1) - times1 (2 * s)) unit1) lengthD) triedRows1 (mix triedRows1 triedRow1 row) tried1 triedAction1 triedRows1 triedRow1 times1 unit1 facts1 numN1 numD1 oldFacts1 oldN1 oldD1 point1 judged fault faultPoint toldFacts toldN toldD x9 y9 pointN pointD gone1 now leastN1 leastD1 greatestN1 greatestD1 events1 post)) ∨ ((∀ j : Nat, 0 ≤ j → 2 * (j : Int) ≤ most → findE (GoodE actions (fun S a t => fit needs needTime needOf needHow needN needD S.1 S.2.1 S.2.2 a t) (fun S a t => chAll changeTime changeOf changeHow changeN changeD t (changes a).toNat (6 * a) S) (fun S a => (lbN lastOf lastN lastD epsilonN epsilonD S.2.1 S.2.2 a, lbD lastOf lastN lastD epsilonN epsilonD S.2.1 S.2.2 a, gbN lastOf lastN lastD S.2.1 S.2.2 a, gbD lastOf lastN lastD S.2.1 S.2.2 a)) (fun S => goal wishes wants wantN wantD S.1 S.2.1 S.2.2) (fun a t b u => interf needs needTime needHow needOf lastOf changes changeTime changeHow changeOf a t b u) epsilonN epsilonD (firstFacts, firstN, firstD) (2 * j)) (2 * j) 0 (fun _ => 0) = none) ∧ ∃ (facts1 : Int → Prop) (numN1 : Int → Int) (numD1 : Int → Int) (gone1 : Int → Prop) (outN1 : Int) (outD1 : Int) (point1 : Int) (leastN1 : Int → Int) (leastD1 : Int → Int) (greatestN1 : Int → Int) (greatestD1 : Int → Int) (oldFacts1 : Int → Prop) (oldN1 : Int → Int) (oldD1 : Int → Int) (unit1 : Int) (times1 : Int → Int) (tried1 : Int) (triedRows1 : Int) (triedAction1 : Int → Int) (triedRow1 : Int → Int) (events1 : Int → Int), (∀ s, 0 ≤ triedAction1 s ∧ triedAction1 s < 12) ∧ Cg false (d + 8) m_Mo_seek [.ref 168, .int (iI most)] (MR pre code amountN amountD momentN momentD epsilonN epsilonD firstFacts firstN firstD wishes wants wantN wantD actions needs needTime needOf needHow needN needD changes changeTime changeOf changeHow changeN changeD lastOf lastN lastD steps stepAction startN startD lengthN lengthD rows row tried triedAction triedRows triedRow times unit facts numN numD oldFacts oldN oldD point judged fault faultPoint toldFacts toldN toldD outN outD pointN pointD gone now leastN leastD greatestN greatestD events post) (.inl (some (.int (iI (-1))))) (MR pre 0 amountN amountD momentN momentD epsilonN epsilonD firstFacts firstN firstD wishes wants wantN wantD actions needs needTime needOf needHow needN needD changes changeTime changeOf changeHow changeN changeD lastOf lastN lastD steps stepAction startN startD lengthN lengthD rows row tried1 triedAction1 triedRows1 triedRow1 times1 unit1 facts1 numN1 numD1 oldFacts1 oldN1 oldD1 point1 judged fault faultPoint toldFacts toldN toldD outN1 outD1 pointN pointD gone1 now leastN1 leastD1 greatestN1 greatestD1 events1 post)) := by
  rcases seek_loop (d := d) (n0 := (MR pre code amountN amountD momentN momentD epsilonN epsilonD firstFacts firstN firstD wishes wants wantN wantD actions needs needTime needOf needHow needN needD changes changeTime changeOf changeHow changeN changeD lastOf lastN lastD steps stepAction startN startD lengthN lengthD rows row tried triedAction triedRows triedRow times unit facts numN numD oldFacts oldN oldD point judged fault faultPoint toldFacts toldN toldD outN outD pointN pointD gone now leastN leastD greatestN greatestD events post).length) (pre := pre) (post := post) (code := 0) (amountN := amountN) (amountD := amountD) (momentN := momentN) (momentD := momentD) (epsilonN := epsilonN) (epsilonD := epsilonD) (firstFacts := firstFacts) (firstN := firstN) (firstD := firstD) (wishes := wishes) (wants := wants) (wantN := wantN) (wantD := wantD) (actions := actions) (needs := needs) (needTime := needTime) (needOf := needOf) (needHow := needHow) (needN := needN) (needD := needD) (changes := changes) (changeTime := changeTime) (changeOf := changeOf) (changeHow := changeHow) (changeN := changeN) (changeD := changeD) (lastOf := lastOf) (lastN := lastN) (lastD := lastD) (steps := steps) (stepAction := stepAction) (startN := startN) (startD := startD) (lengthN := lengthN) (lengthD := lengthD) (rows := rows) (row := row) (judged := judged) (fault := fault) (faultPoint := faultPoint) (toldFacts := toldFacts) (toldN := toldN) (toldD := toldD) (pointN := pointN) (pointD := pointD) (now := now) hp hw hmo 4 0 facts numN numD gone outN outD point leastN leastD greatestN greatestD oldFacts oldN oldD unit times tried triedRows triedAction triedRow events (by omega) wT with ⟨k1, ev', y1, y2, y3, y4, facts1, numN1, numD1, gone1, outN1, outD1, point1, leastN1, leastD1, greatestN1, greatestD1, oldFacts1, oldN1, oldD1, unit1, times1, tried1, triedRows1, triedAction1, triedRow1, events1, y5, y6, x9, y9, ht⟩ | ⟨y1, facts1, numN1, numD1, gone1, outN1, outD1, point1, leastN1, leastD1, greatestN1, greatestD1, oldFacts1, oldN1, oldD1, unit1, times1, tried1, triedRows1, triedAction1, triedRow1, events1, y2, ht⟩
  · refine Or.inl ⟨k1, ev', y1, y2, y3, y4, facts1, numN1, numD1, gone1, outN1, outD1, point1, leastN1, leastD1, greatestN1, greatestD1, oldFacts1, oldN1, oldD1, unit1, times1, tried1, triedRows1, triedAction1, triedRow1, events1, y5, y6, x9, y9, ?_⟩
    refine Cg.of (Nat.le_of_ble_eq_true rfl) ?_
    change Rg _ _ _ _ 0 [(0, .ref 168), (1, .int (iI most))] [] _ _ _
    refine Rg.step 1 F_Mo_seek_0 rfl (fun _ => rfl) ?_
    refine Rg.step 2 F_Mo_seek_1 rfl (fun _ => rfl) ?_
    refine Rg.step 3 F_Mo_seek_2 rfl (fun _ => rfl) ?_
    refine Rg.bip 5 F_Mo_seek_3 rfl rfl ?_
    refine Rg.call 8 F_Mo_seek_5 rfl (one_S (by decide +kernel) rM_26_200 (by decide) (by simp) rfl rfl) (Nat.le_of_ble_eq_true rfl) (Cg.any (c_Mo_in (by omega) (by omega) (by omega))) ?_
    refine Rg.ifeqP 15 11 F_Mo_seek_8 rfl rfl (fun h8 => by omega) (fun _ => ?_)
    refine Rg.step 12 F_Mo_seek_11 rfl (fun _ => rfl) ?_
    refine Rg.step 16 F_Mo_seek_12 rfl (fun _ => rfl) ?_
    refine Rg.put 19 F_Mo_seek_16 rfl rF_26_178 (gM hp) (by decide) (Nat.le_of_ble_eq_true rfl) (Or.inl rfl) rfl (sM_code hp) ?_
    refine Rg.step 20 F_Mo_seek_19 rfl (fun _ => rfl) ?_
    refine Rg.getf 23 F_Mo_seek_20 rfl rF_26_178 (gM hp) rfl ?_
    refine Rg.ifle 28 26 F_Mo_seek_23 rfl rfl (fun _ => ?_) (fun h23 => absurd h23 (by decide))
    refine Rg.step 29 F_Mo_seek_28 rfl (fun _ => rfl) ?_
    refine Rg.step 30 F_Mo_seek_29 rfl (fun _ => rfl) ?_
    exact Rg.weak ht (by simp [lput1, lput2, Value.category, fi0, fi1, fi2, fi3] <;> first | rfl | exact ⟨rfl, rfl⟩) (by simp [lput1, lput2, Value.category, fi0, fi1, fi2, fi3] <;> first | rfl | exact ⟨rfl, rfl⟩)
  · refine Or.inr ⟨y1, facts1, numN1, numD1, gone1, outN1, outD1, point1, leastN1, leastD1, greatestN1, greatestD1, oldFacts1, oldN1, oldD1, unit1, times1, tried1, triedRows1, triedAction1, triedRow1, events1, y2, ?_⟩
    refine Cg.of (Nat.le_of_ble_eq_true rfl) ?_
    change Rg _ _ _ _ 0 [(0, .ref 168), (1, .int (iI most))] [] _ _ _
    refine Rg.step 1 F_Mo_seek_0 rfl (fun _ => rfl) ?_
    refine Rg.step 2 F_Mo_seek_1 rfl (fun _ => rfl) ?_
    refine Rg.step 3 F_Mo_seek_2 rfl (fun _ => rfl) ?_
    refine Rg.bip 5 F_Mo_seek_3 rfl rfl ?_
    refine Rg.call 8 F_Mo_seek_5 rfl (one_S (by decide +kernel) rM_26_200 (by decide) (by simp) rfl rfl) (Nat.le_of_ble_eq_true rfl) (Cg.any (c_Mo_in (by omega) (by omega) (by omega))) ?_
    refine Rg.ifeqP 15 11 F_Mo_seek_8 rfl rfl (fun h8 => by omega) (fun _ => ?_)
    refine Rg.step 12 F_Mo_seek_11 rfl (fun _ => rfl) ?_
    refine Rg.step 16 F_Mo_seek_12 rfl (fun _ => rfl) ?_
    refine Rg.put 19 F_Mo_seek_16 rfl rF_26_178 (gM hp) (by decide) (Nat.le_of_ble_eq_true rfl) (Or.inl rfl) rfl (sM_code hp) ?_
    refine Rg.step 20 F_Mo_seek_19 rfl (fun _ => rfl) ?_
    refine Rg.getf 23 F_Mo_seek_20 rfl rF_26_178 (gM hp) rfl ?_
    refine Rg.ifle 28 26 F_Mo_seek_23 rfl rfl (fun _ => ?_) (fun h23 => absurd h23 (by decide))
    refine Rg.step 29 F_Mo_seek_28 rfl (fun _ => rfl) ?_
    refine Rg.step 30 F_Mo_seek_29 rfl (fun _ => rfl) ?_
    exact Rg.weak ht (by simp [lput1, lput2, Value.category, fi0, fi1, fi2, fi3] <;> first | rfl | exact ⟨rfl, rfl⟩) (by simp [lput1, lput2, Value.category, fi0, fi1, fi2, fi3] <;> first | rfl | exact ⟨rfl, rfl⟩)
end R56
