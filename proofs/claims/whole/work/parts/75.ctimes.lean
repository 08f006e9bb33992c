/-! The class: units and times. -/
def Fwd (R : Int) (r arL arS L : Int → Int) (E : Int) (t : Int → Int) : Prop := (∀ k, 0 < k → k < R → t (k - 1) ≤ t k) ∧ (∀ k, 0 ≤ k → k < R → ¬ arL k = -1 → t (arL k) + E ≤ t k) ∧ (∀ k, 0 ≤ k → k < R → ¬ r k % 2 = 0 → t (arS (r k / 2)) + L (r k / 2) ≤ t k)
def Bwd (R : Int) (r arS G : Int → Int) (H : Int → Prop) (t0 t : Int → Int) : Prop := ∀ k, 0 ≤ k → k < R → ¬ r k % 2 = 0 → H (r k / 2) → t0 k - G (r k / 2) ≤ t (arS (r k / 2))
def UP (R : Int) (r arL arS L G : Int → Int) (H : Int → Prop) (E : Int) (t : Int → Int) : Prop := (∀ k, 0 ≤ t k) ∧ Fwd R r arL arS L E t ∧ Bwd R r arS G H t t
section UPS
variable {R m : Int} {r arL arS L G : Int → Int} {H : Int → Prop} {E : Int}
/-- a round makes one more start a final one -/
theorem cls_step {n : Nat} (hn : (n : Int) = R) (hS : ∀ k, 0 ≤ k → k < R → ¬ r k % 2 = 0 → 0 ≤ arS (r k / 2) ∧ arS (r k / 2) < R ∧ 0 ≤ r k / 2 ∧ r k / 2 < m) (hL : ∀ k, 0 ≤ k → k < R → ¬ arL k = -1 → 0 ≤ arL k ∧ arL k < R) {u a b : Int → Int} (hu : MinU (UP R r arL arS L G H E) n u) (h0 : ∀ k, 0 ≤ a k) (h1 : ∀ k, a k ≤ u k) (h2 : ∀ k, b k ≤ u k) (hF : Fwd R r arL arS L E a) (hB : Bwd R r arS G H a b) (hne : ∃ k : Int, 0 ≤ k ∧ k < n ∧ ¬ a k = u k) : ∃ s, 0 ≤ s ∧ s < m ∧ ¬ a (arS s) = u (arS s) ∧ b (arS s) = u (arS s) := by
  refine Classical.byContradiction (fun hno => ?_)
  obtain ⟨⟨s1, ⟨s2, s3, s4⟩, s5⟩, hmin⟩ := hu
  have hlt : ∀ k, (0 ≤ k ∧ k < (n : Int) ∧ ¬ a k = u k) → a k ≤ u k - 1 := fun k z => by
    have := h1 k
    have := z.2.2
    omega
  have hfin : ∀ {q : Int}, 0 ≤ q → q < R → ¬ (0 ≤ q ∧ q < (n : Int) ∧ ¬ a q = u q) → a q = u q := fun {q} z1 z2 z => Classical.byContradiction (fun y => z ⟨z1, by omega, y⟩)
  have hU : UP R r arL arS L G H E (less1 n (fun k => ¬ a k = u k) u) := by
    refine ⟨fun k => ?_, ⟨fun k z1 z2 => ?_, fun k z1 z2 z3 => ?_, fun k z1 z2 z3 => ?_⟩, fun k z1 z2 z3 z4 => ?_⟩
    · by_cases hp : 0 ≤ k ∧ k < (n : Int) ∧ ¬ a k = u k
      · rw [less1_in hp]
        have := hlt k hp
        have := h0 k
        omega
      · rw [less1_out hp]; exact s1 k
    · have := less1_edge (n := n) (Q := fun k => ¬ a k = u k) (u := u) (q := k - 1) (p := k) (w := 0) (by have := s2 k z1 z2; omega) (fun y1 y2 => by
        have := hfin (q := k - 1) (by omega) (by omega) y2
        have := hF.1 k z1 z2
        have := hlt k y1
        omega)
      omega
    · have hq := hL k z1 z2 z3
      exact less1_edge (s3 k z1 z2 z3) (fun y1 y2 => by
        have := hfin hq.1 hq.2 y2
        have := hF.2.1 k z1 z2 z3
        have := hlt k y1
        omega)
    · have hq := hS k z1 z2 z3
      exact less1_edge (s4 k z1 z2 z3) (fun y1 y2 => by
        have := hfin hq.1 hq.2.1 y2
        have := hF.2.2 k z1 z2 z3
        have := hlt k y1
        omega)
    · have hq := hS k z1 z2 z3
      have e := s5 k z1 z2 z3 z4
      have := less1_edge (n := n) (Q := fun k => ¬ a k = u k) (u := u) (q := k) (p := arS (r k / 2)) (w := - G (r k / 2)) (by omega) (fun y1 y2 => by
        have e1 := hfin z1 z2 y2
        have e2 := hB k z1 z2 z3 z4
        have e3 := h2 (arS (r k / 2))
        have e4 : ¬ b (arS (r k / 2)) = u (arS (r k / 2)) := fun z => hno ⟨r k / 2, hq.2.2.1, hq.2.2.2, y1.2.2, z⟩
        omega)
      omega
  obtain ⟨p, p1, p2, p3⟩ := hne
  have h4 := hmin _ hU
  have h5 := sumI_lt (u := less1 n (fun k => ¬ a k = u k) u) (v := u) (fun p => (less1_le p).1) p1 (by rw [less1_in ⟨p1, p2, p3⟩]; omega) n p2
  omega
end UPS
/-- where a point stands in the row -/
noncomputable def posP (r : Int → Int) (R : Int) (p : Int) : Int := fnd (fun i => r i = p) R.toNat 0
theorem posP_ok {r : Int → Int} {R p : Int} (h : ∃ i, 0 ≤ i ∧ i < R ∧ r i = p) : 0 ≤ posP r R p ∧ posP r R p < R ∧ r (posP r R p) = p := by
  unfold posP
  rcases fnd_bd (A := fun i => r i = p) R.toNat 0 with ⟨_, h2⟩ | ⟨h1, h2, h3, _⟩
  · obtain ⟨i, i1, i2, i3⟩ := h
    exact absurd i3 (h2 i i1 (by omega))
  · exact ⟨h1, by omega, h3⟩
section LINK
variable {m R : Int} {r : Int → Int} {I : Int → Int → Prop} {E : Int} {L : Int → Int} {has : Int → Prop} {G : Int → Int} {arL arS : Int → Int}
/-- from points to places -/
theorem sol_up (hr : ∀ k, 0 ≤ k → k < R → 0 ≤ r k ∧ r k < 2 * m) (hI : ∀ p q, I p q → I q p) (hE : 0 ≤ E) (hL : ∀ k, 0 ≤ k → k < R → LI r I arL k) (hS : ∀ s, 0 ≤ s → s < m → 0 ≤ arS s ∧ arS s < R ∧ r (arS s) = 2 * s) {u : Int → Int} (h : Sol m R r I E L has G u) : UP R r arL arS L G has E (fun k => u (r k)) := by
  obtain ⟨s1, s2, s3, s4⟩ := h
  refine ⟨fun k => s1 _, ⟨fun k z1 z2 => ?_, fun k z1 z2 z3 => ?_, fun k z1 z2 z3 => ?_⟩, fun k z1 z2 z3 z4 => ?_⟩
  · have h1 := s2 (k - 1) k (by omega) (by omega) z2
    have h2 : 0 ≤ wgt I E (r (k - 1)) (r k) := by unfold wgt; split <;> omega
    dsimp only
    omega
  · rcases hL k z1 z2 with ⟨y1, _⟩ | ⟨y1, y2, y3, _⟩
    · exact absurd y1 z3
    · have h1 := s2 (arL k) k y1 y2 z2
      rw [wgt_y (hI _ _ y3)] at h1
      exact h1
  · have q := hr k z1 z2
    have h1 := s3 (r k / 2) (by omega) (by omega)
    have h2 := hS (r k / 2) (by omega) (by omega)
    dsimp only
    rw [h2.2.2]
    rw [show 2 * (r k / 2) + 1 = r k by omega] at h1
    exact h1
  · have q := hr k z1 z2
    have h1 := s4 (r k / 2) (by omega) (by omega) z4
    have h2 := hS (r k / 2) (by omega) (by omega)
    dsimp only
    rw [h2.2.2]
    rw [show 2 * (r k / 2) + 1 = r k by omega] at h1
    exact h1
/-- from places to points -/
theorem up_sol (hr : ∀ k, 0 ≤ k → k < R → 0 ≤ r k ∧ r k < 2 * m) (hinj : ∀ i j, 0 ≤ i → i < j → j < R → ¬ r i = r j) (hfull : ∀ p, 0 ≤ p → p < 2 * m → ∃ i, 0 ≤ i ∧ i < R ∧ r i = p) (hI : ∀ p q, I p q → I q p) (hE : 0 ≤ E) (hL : ∀ k, 0 ≤ k → k < R → LI r I arL k) (hS : ∀ s, 0 ≤ s → s < m → 0 ≤ arS s ∧ arS s < R ∧ r (arS s) = 2 * s) {t : Int → Int} (h : UP R r arL arS L G has E t) : Sol m R r I E L has G (fun p => t (posP r R p)) := by
  obtain ⟨s1, ⟨s2, s3, s4⟩, s5⟩ := h
  have hpos : ∀ k, 0 ≤ k → k < R → posP r R (r k) = k := fun k z1 z2 => by
    obtain ⟨y1, y2, y3⟩ := posP_ok (r := r) (R := R) (p := r k) ⟨k, z1, z2, rfl⟩
    by_cases h1 : posP r R (r k) < k
    · exact absurd y3 (hinj _ _ y1 h1 z2)
    · by_cases h2 : k < posP r R (r k)
      · exact absurd y3.symm (hinj _ _ z1 h2 y2)
      · omega
  have mono : ∀ (n : Nat) (i : Int), 0 ≤ i → i + n < R → t i ≤ t (i + n) := by
    intro n
    induction n with
    | zero => intro i _ _; simp
    | succ n ih =>
      intro i z1 z2
      have h1 := ih i z1 (by omega)
      have h2 := s2 (i + n + 1) (by omega) (by omega)
      rw [show i + ↑n + 1 - 1 = i + ↑n by omega] at h2
      rw [show i + ((n + 1 : Nat) : Int) = i + n + 1 by omega]
      omega
  have mono2 : ∀ i k, 0 ≤ i → i ≤ k → k < R → t i ≤ t k := fun i k z1 z2 z3 => by
    have := mono (k - i).toNat i z1 (by omega)
    rw [show i + ((k - i).toNat : Int) = k by omega] at this
    exact this
  have hst : ∀ s, 0 ≤ s → s < m → posP r R (2 * s) = arS s := fun s z1 z2 => by
    obtain ⟨y1, y2, y3⟩ := hS s z1 z2
    rw [← y3]
    exact hpos _ y1 y2
  refine ⟨fun p => s1 _, fun i k z1 z2 z3 => ?_, fun s z1 z2 => ?_, fun s z1 z2 z3 => ?_⟩
  · dsimp only
    rw [hpos i z1 (by omega), hpos k (by omega) z3]
    by_cases hi : I (r i) (r k)
    · rw [wgt_y hi]
      rcases hL k (by omega) z3 with ⟨_, y2⟩ | ⟨y1, y2, y3, y4⟩
      · exact absurd (hI _ _ hi) (y2 i z1 z2)
      · have h1 : i ≤ arL k := Int.not_lt.mp (fun z => y4 i z z2 (hI _ _ hi))
        have h2 := mono2 i (arL k) z1 h1 (by omega)
        have h3 := s3 k (by omega) z3 (by omega)
        omega
    · rw [wgt_n hi]
      have := mono2 i k z1 (by omega) z3
      omega
  · obtain ⟨k, k1, k2, k3⟩ := hfull (2 * s + 1) (by omega) (by omega)
    have h1 := s4 k k1 k2 (by omega)
    rw [show r k / 2 = s by omega] at h1
    dsimp only
    rw [hst s z1 z2, ← k3, hpos k k1 k2]
    exact h1
  · obtain ⟨k, k1, k2, k3⟩ := hfull (2 * s + 1) (by omega) (by omega)
    have h1 := s5 k k1 k2 (by omega) (by rw [show r k / 2 = s by omega]; exact z3)
    rw [show r k / 2 = s by omega] at h1
    dsimp only
    rw [hst s z1 z2, ← k3, hpos k k1 k2]
    exact h1
end LINK
def mx (a b : Int) : Int := if a < b then b else a
theorem gl_none {gN gD lN lD u : Int} (hu : 0 < u) (hg : 0 < gD) (hl : 0 < lD) (h1 : gD ∣ u) (h2 : lD ∣ u) (hc : cmpF gN gD lN lD < 0) : gN * (u / gD) < lN * (u / lD) := by
  have hc2 : gN * lD < lN * gD := by
    unfold cmpF at hc
    split at hc
    · assumption
    · split at hc <;> omega
  have a1 : u / gD * gD = u := Int.ediv_mul_cancel h1
  have a2 : u / lD * lD = u := Int.ediv_mul_cancel h2
  have b1 : 0 < u / gD := Int.ediv_pos_of_pos_of_dvd hu (by omega) h1
  have b2 : 0 < u / lD := Int.ediv_pos_of_pos_of_dvd hu (by omega) h2
  have hp : 0 < u / gD * (u / lD) := Int.mul_pos b1 b2
  have h3 : gN * lD * (u / gD * (u / lD)) < lN * gD * (u / gD * (u / lD)) := Int.mul_lt_mul_of_pos_right hc2 hp
  have e1 : gN * lD * (u / gD * (u / lD)) = gN * (u / gD) * (u / lD * lD) := by
    simp only [Int.mul_assoc, Int.mul_comm, Int.mul_left_comm]
  have e2 : lN * gD * (u / gD * (u / lD)) = lN * (u / lD) * (u / gD * gD) := by
    simp only [Int.mul_assoc, Int.mul_comm, Int.mul_left_comm]
  rw [e1, e2, a1, a2] at h3
  exact Int.lt_of_mul_lt_mul_right h3 (by omega)
/-- while the points are delayed -/
def DPI (R : Int) (r arL arS L : Int → Int) (E : Int) (U : (Int → Int) → Prop) (t0 : Int → Int) (b k : Int) (t : Int → Int) : Prop := (∀ i, t0 i ≤ t i) ∧ Fwd k r arL arS L E t ∧ (∀ u, U u → (∀ i, t0 i ≤ u i) → ∀ i, t i ≤ u i) ∧ (∀ i, 0 ≤ t i ∧ t i ≤ b + 1000000000 * k) ∧ (∀ i, ¬ (0 ≤ i ∧ i < R) → t i = t0 i)
theorem DPI.step {R : Int} {r arL arS L : Int → Int} {E : Int} {U : (Int → Int) → Prop} {t0 : Int → Int} {b k : Int} {t : Int → Int} (h : DPI R r arL arS L E U t0 b k t) (hk : 0 ≤ k) (hkR : k < R) (hL : ∀ i, 0 ≤ i → i ≤ k → ¬ arL i = -1 → 0 ≤ arL i ∧ arL i < i) (hS : ∀ i, 0 ≤ i → i ≤ k → ¬ r i % 2 = 0 → 0 ≤ arS (r i / 2) ∧ arS (r i / 2) < i) {v : Int} (v1 : t k ≤ v) (v2 : 0 < k → t (k - 1) ≤ v) (v3 : ¬ arL k = -1 → t (arL k) + E ≤ v) (v4 : ¬ r k % 2 = 0 → t (arS (r k / 2)) + L (r k / 2) ≤ v) (v5 : ∀ u, U u → (∀ i, t i ≤ u i) → v ≤ u k) (v6 : v ≤ b + 1000000000 * (k + 1)) : DPI R r arL arS L E U t0 b (k + 1) (up1 t k v) := by
  obtain ⟨h1, ⟨f1, f2, f3⟩, h3, h4, h5⟩ := h
  have hle : ∀ i, t i ≤ up1 t k v i := fun i => by
    by_cases e : i = k
    · rw [e, up1_eq]; exact v1
    · rw [up1_ne _ _ e]; omega
  refine ⟨fun i => Int.le_trans (h1 i) (hle i), ⟨fun i z1 z2 => ?_, fun i z1 z2 z3 => ?_, fun i z1 z2 z3 => ?_⟩, fun u hu ht i => ?_, fun i => ?_, fun i hi => ?_⟩
  · by_cases e : i = k
    · rw [e, up1_eq, up1_ne _ _ (by omega)]; exact v2 (by omega)
    · rw [up1_ne _ _ e, up1_ne _ _ (by omega)]; exact f1 i z1 (by omega)
  · have hq := hL i z1 (by omega) z3
    by_cases e : i = k
    · rw [e] at z3 hq ⊢
      rw [up1_eq, up1_ne _ _ (by omega)]; exact v3 z3
    · rw [up1_ne _ _ e, up1_ne _ _ (by omega)]; exact f2 i z1 (by omega) z3
  · have hq := hS i z1 (by omega) z3
    by_cases e : i = k
    · rw [e] at z3 hq ⊢
      rw [up1_eq, up1_ne _ _ (by omega)]; exact v4 z3
    · rw [up1_ne _ _ e, up1_ne _ _ (by omega)]; exact f3 i z1 (by omega) z3
  · by_cases e : i = k
    · rw [e, up1_eq]; exact v5 u hu (h3 u hu ht)
    · rw [up1_ne _ _ e]; exact h3 u hu ht i
  · have := h4 i
    by_cases e : i = k
    · rw [e, up1_eq]
      have := h4 k
      omega
    · rw [up1_ne _ _ e]; omega
  · rw [up1_ne _ _ (fun z => hi ⟨by omega, by omega⟩)]; exact h5 i hi

section R75a
variable {mem : AM} {a n : Nat} {f : Int → Int}
theorem fill_loop {d n0 : Nat} (ha : mem[a]? = some (.inl (.long, aL n f))) (h2 : 2 ≤ a) (hn : n ≤ 100) {v : Int} : ∀ (j : Nat) (k : Int), k + j = n → 0 ≤ k → Rg false d m_Arrays_fill n0 6 [(4, .int (iI (n : Int))), (3, .int (iI k)), (0, .ref a), (1, .long (lI v))] [] (mem.set a (.inl (.long, aL n (mix k (fun _ => v) f)))) (.inl none) (mem.set a (.inl (.long, aL n (mix n (fun _ => v) f)))) := by
  intro j
  induction j with
  | zero =>
    intro k hk hk2
    have ek : k = n := by omega
    subst ek
    refine Rg.step 7 F_Arrays_fill_6 rfl (fun _ => rfl) ?_
    refine Rg.step 9 F_Arrays_fill_7 rfl (fun _ => rfl) ?_
    refine Rg.icgeI 22 12 F_Arrays_fill_9 rfl rfl (by omega) (by omega) (fun _ => ?_) (fun h9 => by omega)
    exact Rg.retV F_Arrays_fill_22 rfl rfl
  | succ j ih =>
    intro k hk hk2
    refine Rg.step 7 F_Arrays_fill_6 rfl (fun _ => rfl) ?_
    refine Rg.step 9 F_Arrays_fill_7 rfl (fun _ => rfl) ?_
    refine Rg.icgeI 22 12 F_Arrays_fill_9 rfl rfl (by omega) (by omega) (fun h9 => by omega) (fun _ => ?_)
    refine Rg.step 13 F_Arrays_fill_12 rfl (fun _ => rfl) ?_
    refine Rg.step 14 F_Arrays_fill_13 rfl (fun _ => rfl) ?_
    refine Rg.step 15 F_Arrays_fill_14 rfl (fun _ => rfl) ?_
    refine Rg.lst 16 F_Arrays_fill_15 rfl (get_set_eq ha) h2 (List.set_set ..) (by omega) hn ?_
    rw [mix_up (f := fun _ => v)]
    refine Rg.inc 19 F_Arrays_fill_16 rfl rfl (by decide) ?_
    refine Rg.step 6 F_Arrays_fill_19 rfl (fun _ => rfl) ?_
    exact Rg.weak (ih (k + 1) (by omega) (by omega)) (by simp [lput1, lput2, Value.category, fi0, fi1, fi2, fi3] <;> first | rfl | exact ⟨rfl, rfl⟩) (by simp [lput1, lput2, Value.category, fi0, fi1, fi2, fi3] <;> first | rfl | exact ⟨rfl, rfl⟩)
theorem c_fillL {d : Nat} (ha : mem[a]? = some (.inl (.long, aL n f))) (h2 : 2 ≤ a) (hn : n ≤ 100) {v : Int} : Cg false d m_Arrays_fill [.ref a, .long (lI v)] mem (.inl none) (mem.set a (.inl (.long, aL n (fun _ => v)))) := by
  refine Cg.of (Nat.le_of_ble_eq_true rfl) ?_
  change Rg _ _ _ _ 0 [(0, .ref a), (1, .long (lI v))] [] _ _ _
  refine Rg.frM (set_same (x := .inl (.long, aL n (mix 0 (fun _ => v) f))) (by rw [ha, mix0_L (fun _ => v) f])).symm ?_
  refine Rg.toM (show (mem.set a (.inl (.long, aL n (mix n (fun _ => v) f)))) = _ by rw [mix_L]) ?_
  refine Rg.step 1 F_Arrays_fill_0 rfl (fun _ => rfl) ?_
  refine Rg.step 2 F_Arrays_fill_1 rfl (fun _ => rfl) ?_
  refine Rg.step 3 F_Arrays_fill_2 rfl (fun _ => rfl) ?_
  refine Rg.lenA 4 F_Arrays_fill_3 rfl (get_set_eq ha) (aL_len _ _) ?_
  refine Rg.step 6 F_Arrays_fill_4 rfl (fun _ => rfl) ?_
  exact Rg.weak (fill_loop ha h2 hn n 0 (by omega) (by omega)) (by simp [lput1, lput2, Value.category, fi0, fi1, fi2, fi3] <;> first | rfl | exact ⟨rfl, rfl⟩) (by simp [lput1, lput2, Value.category, fi0, fi1, fi2, fi3] <;> first | rfl | exact ⟨rfl, rfl⟩)
end R75a
section R75
variable {s0 s1 : AC} {rest : AM} {ab : Int → Nat}
variable {alS alM plS plP veW veF veP juP arP arB arU arF : Int}
variable {handN handD fiN fiD epN epD goH goN goD plA plBN plBD plLN plLD plR vsN vsD juTN juTD juO scN scD noN noD neN neD arR arL arT arA arS leN leD grN grD arLU arGU shN shD : Int → Int}
variable {stN stD : Int → Int → Int}
variable {stF : Int → Int → Prop}
variable {gT gF fiF plM vsF juM noF neF arM arH : Int → Prop}
variable {alE : Nat}
variable {code amountN amountD momentN momentD epsilonN epsilonD actions steps rows tried triedRows unit point judged fault faultPoint outN outD : Int}
variable {firstN firstD wishes wants wantN wantD needs needTime needOf needHow needN needD changes changeTime changeOf changeHow changeN changeD lastOf lastN lastD stepAction startN startD lengthN lengthD row triedAction triedRow times numN numD oldN oldD toldN toldD pointN pointD leastN leastD greatestN greatestD events : Int → Int}
variable {firstFacts facts oldFacts toldFacts gone now : Int → Prop}
theorem c_max2 {d : Nat}  {mem : AM} {a b : Int} (h1 : -9223372036854775808 ≤ a ∧ a < 9223372036854775808) (h2 : -9223372036854775808 ≤ b ∧ b < 9223372036854775808) : Cg true d m_Math_max2 [.long (lI a), .long (lI b)] mem (.inl (some (.long (lI (mx a b))))) mem := by
  refine Cg.of (Nat.le_of_ble_eq_true rfl) ?_
  change Rg _ _ _ _ 0 [(0, .long (lI a)), (2, .long (lI b))] [] _ _ _
  refine Rg.step 1 F_Math_max2_0 rfl (fun _ => rfl) ?_
  refine Rg.step 2 F_Math_max2_1 rfl (fun _ => rfl) ?_
  refine Rg.lclt 10 6 F_Math_max2_2 F_Math_max2_3 rfl rfl (by omega) (by omega) (fun h2 => ?_) (fun h2 => ?_)
  · refine Rg.step 11 F_Math_max2_10 rfl (fun _ => rfl) ?_
    exact Rg.retL F_Math_max2_11 rfl (by unfold mx; rw [if_pos (by omega)]) rfl
  · refine Rg.step 7 F_Math_max2_6 rfl (fun _ => rfl) ?_
    refine Rg.step 11 F_Math_max2_7 rfl (fun _ => rfl) ?_
    exact Rg.retL F_Math_max2_11 rfl (by unfold mx; rw [if_neg (by omega)]) rfl
theorem c_Ar_ref_ep {d : Nat} {u : Int} (hu : 0 < u ∧ u ≤ 100000) {i : Int} (hi : 0 ≤ i ∧ i < 1) (hn : -100000000000000 ≤ epN i ∧ epN i ≤ 100000000000000) (hd : 0 < epD i ∧ epD i ≤ 1000000000000) : ∃ u1 sN sD, (∀ v, joinF u (epN i) (epD i) = some v → u1 = v) ∧ Cg false (d + 1) m_Arranger_refineUnit [.ref 49, .ref 12, .int (iI i)] (MC s0 s1 handN handD gT gF alE actions alM fiF fiN fiD epN epD goH goN goD plS plP plM plA plBN plBD plLN plLD plR veW veF veP vsF vsN vsD juM juP juTN juTD juO scN scD noF noN noD neF neN neD arP arB arM u arF arR arL arT arA arS leN leD grN grD arH arLU arGU shN shD stF stN stD rest) (.inl (some (.int (bP (∃ v, joinF u (epN i) (epD i) = some v))))) (MC s0 s1 handN handD gT gF alE actions alM fiF fiN fiD epN epD goH goN goD plS plP plM plA plBN plBD plLN plLD plR veW veF veP vsF vsN vsD juM juP juTN juTD juO scN scD noF noN noD neF neN neD arP arB arM u1 arF arR arL arT arA arS leN leD grN grD arH arLU arGU sN sD stF stN stD rest) := by
  have hg := gcd_b (p := u) (q := (epD i)) hd.1
  have hgu : (Int.gcd u (epD i) : Int) ≤ u := Int.le_of_dvd hu.1 (Int.gcd_dvd_left _ _)
  have q0 : 0 ≤ nN u (epD i) := Int.ediv_nonneg (by omega) (by omega)
  have q1 : nN u (epD i) ≤ u := Int.ediv_le_self _ (by omega)
  have hm := mul_bd (a := nN u (epD i)) (b := (epD i)) (A := 100000) (B := 1000000000000) (by omega) (by omega)
  have ej : joinF u (epN i) (epD i) = if 10000 * (epD i) < (epN i) then none else if nN u (epD i) * (epD i) ≤ 100000 then some (nN u (epD i) * (epD i)) else none := rfl
  refine ⟨nN u (epD i) * (epD i), up1 shN 0 (nN u (epD i)), up1 shD 0 (nD u (epD i)), fun v hv => ?_, ?_⟩
  · rw [ej] at hv
    split at hv
    · cases hv
    · split at hv
      · exact Option.some.inj hv
      · cases hv
  · refine Cg.of (Nat.le_of_ble_eq_true rfl) ?_
    change Rg _ _ _ _ 0 [(0, .ref 49), (1, .ref 12), (2, .int (iI i))] [] _ _ _
    refine Rg.step 1 F_Arranger_refineUnit_0 rfl (fun _ => rfl) ?_
    refine Rg.getf 4 F_Arranger_refineUnit_1 rfl rF_13_56 gC_49 rfl ?_
    refine Rg.step 5 F_Arranger_refineUnit_4 rfl (fun _ => rfl) ?_
    refine Rg.step 6 F_Arranger_refineUnit_5 rfl (fun _ => rfl) ?_
    refine Rg.getf 9 F_Arranger_refineUnit_6 rfl rF_13_161 gC_49 rfl ?_
    refine Rg.step 10 F_Arranger_refineUnit_9 rfl (fun _ => rfl) ?_
    refine Rg.getf 13 F_Arranger_refineUnit_10 rfl rF_13_195 gC_12 rfl ?_
    refine Rg.step 14 F_Arranger_refineUnit_13 rfl (fun _ => rfl) ?_
    refine Rg.lld 15 F_Arranger_refineUnit_14 rfl gC_14 (by omega) (by decide) ?_
    refine Rg.call 18 F_Arranger_refineUnit_15 rfl (one_V rM_13_165 (by decide) (by simp) rfl rfl gC_65 rfl) (Nat.le_of_ble_eq_true rfl) (Cg.toM sF_sh (c_FrI_put _ gF_sh (by decide) (by omega) (by omega))) ?_
    refine Rg.step 19 F_Arranger_refineUnit_18 rfl (fun _ => rfl) ?_
    refine Rg.step 20 F_Arranger_refineUnit_19 rfl (fun _ => rfl) ?_
    refine Rg.getf 23 F_Arranger_refineUnit_20 rfl rF_13_56 gC_49 rfl ?_
    refine Rg.getf 26 F_Arranger_refineUnit_23 rfl rF_13_198 gC_65 rfl ?_
    refine Rg.step 27 F_Arranger_refineUnit_26 rfl (fun _ => rfl) ?_
    refine Rg.lld 28 F_Arranger_refineUnit_27 rfl gC_66 (by omega) (by decide) ?_
    refine Rg.step 29 F_Arranger_refineUnit_28 rfl (fun _ => rfl) ?_
    refine Rg.getf 32 F_Arranger_refineUnit_29 rfl rF_13_195 gC_12 rfl ?_
    refine Rg.step 33 F_Arranger_refineUnit_32 rfl (fun _ => rfl) ?_
    refine Rg.lld 34 F_Arranger_refineUnit_33 rfl gC_14 (by omega) (by decide) ?_
    rw [up1_eq]
    refine Rg.mulL 35 F_Arranger_refineUnit_34 rfl ?_
    refine Rg.put 38 F_Arranger_refineUnit_35 rfl rF_13_161 gC_49 (by decide) (Nat.le_of_ble_eq_true rfl) (Or.inl rfl) rfl sO_arU ?_
    refine Rg.step 39 F_Arranger_refineUnit_38 rfl (fun _ => rfl) ?_
    refine Rg.getf 42 F_Arranger_refineUnit_39 rfl rF_13_161 gC_49 rfl ?_
    refine Rg.ldc2 (n := 100000) 45 F_Arranger_refineUnit_42 rfl rJ_13_201 rfl ?_
    refine Rg.lcgt 64 49 F_Arranger_refineUnit_45 F_Arranger_refineUnit_46 rfl rfl (by omega) (by omega) (fun h45 => ?_) (fun h45 => ?_)
    · refine Rg.step 65 F_Arranger_refineUnit_64 rfl (fun _ => rfl) ?_
      exact Rg.ret0 F_Arranger_refineUnit_65 rfl (fun ⟨v, hv⟩ => by rw [ej] at hv; split at hv; cases hv; rw [if_neg (by omega)] at hv; cases hv) rfl
    · refine Rg.step 50 F_Arranger_refineUnit_49 rfl (fun _ => rfl) ?_
      refine Rg.step 51 F_Arranger_refineUnit_50 rfl (fun _ => rfl) ?_
      refine Rg.ldc2 (n := 10000) 54 F_Arranger_refineUnit_51 rfl rJ_13_203 rfl ?_
      refine Rg.call 57 F_Arranger_refineUnit_54 rfl (one_V rM_13_205 (by decide) (by simp) rfl rfl gC_12 rfl) (Nat.le_of_ble_eq_true rfl) (Cg.any (c_Fr_isAbove gF_ep hi (by decide) (by omega) (by omega))) ?_
      refine Rg.ifneP 64 60 F_Arranger_refineUnit_57 rfl rfl (fun h57 => ?_) (fun h57 => ?_)
      · refine Rg.step 65 F_Arranger_refineUnit_64 rfl (fun _ => rfl) ?_
        exact Rg.ret0 F_Arranger_refineUnit_65 rfl (fun ⟨v, hv⟩ => by rw [ej, if_pos h57] at hv; cases hv) rfl
      · refine Rg.step 61 F_Arranger_refineUnit_60 rfl (fun _ => rfl) ?_
        refine Rg.step 65 F_Arranger_refineUnit_61 rfl (fun _ => rfl) ?_
        exact Rg.ret1 F_Arranger_refineUnit_65 rfl (by rw [ej, if_neg (by omega), if_pos (by omega)]; exact ⟨_, rfl⟩) rfl
theorem c_Ar_inu_ep {d : Nat}  {u : Int} (hu : 0 < u ∧ u ≤ 100000) {i : Int} (hi : 0 ≤ i ∧ i < 1) (hn : -100000000000000 ≤ epN i ∧ epN i ≤ 100000000000000) (hd : 0 < epD i ∧ epD i ≤ 1000000000000) : Cg true d m_Arranger_inUnits [.ref 49, .ref 12, .int (iI i)] (MC s0 s1 handN handD gT gF alE actions alM fiF fiN fiD epN epD goH goN goD plS plP plM plA plBN plBD plLN plLD plR veW veF veP vsF vsN vsD juM juP juTN juTD juO scN scD noF noN noD neF neN neD arP arB arM u arF arR arL arT arA arS leN leD grN grD arH arLU arGU shN shD stF stN stD rest) (.inl (some (.long (lI ((epN i) * (u / (epD i))))))) (MC s0 s1 handN handD gT gF alE actions alM fiF fiN fiD epN epD goH goN goD plS plP plM plA plBN plBD plLN plLD plR veW veF veP vsF vsN vsD juM juP juTN juTD juO scN scD noF noN noD neF neN neD arP arB arM u arF arR arL arT arA arS leN leD grN grD arH arLU arGU shN shD stF stN stD rest) := by
  refine Cg.of (Nat.le_of_ble_eq_true rfl) ?_
  change Rg _ _ _ _ 0 [(0, .ref 49), (1, .ref 12), (2, .int (iI i))] [] _ _ _
  refine Rg.step 1 F_Arranger_inUnits_0 rfl (fun _ => rfl) ?_
  refine Rg.getf 4 F_Arranger_inUnits_1 rfl rF_13_195 gC_12 rfl ?_
  refine Rg.step 5 F_Arranger_inUnits_4 rfl (fun _ => rfl) ?_
  refine Rg.lld 6 F_Arranger_inUnits_5 rfl gC_14 (by omega) (by decide) ?_
  refine Rg.lcn (n := 0) 7 F_Arranger_inUnits_6 rfl rfl ?_
  refine Rg.lcle 32 11 F_Arranger_inUnits_7 F_Arranger_inUnits_8 rfl rfl (by omega) (by omega) (fun h7 => by omega) (fun _ => ?_)
  refine Rg.step 12 F_Arranger_inUnits_11 rfl (fun _ => rfl) ?_
  refine Rg.getf 15 F_Arranger_inUnits_12 rfl rF_13_198 gC_12 rfl ?_
  refine Rg.step 16 F_Arranger_inUnits_15 rfl (fun _ => rfl) ?_
  refine Rg.lld 17 F_Arranger_inUnits_16 rfl gC_13 (by omega) (by decide) ?_
  refine Rg.step 18 F_Arranger_inUnits_17 rfl (fun _ => rfl) ?_
  refine Rg.getf 21 F_Arranger_inUnits_18 rfl rF_13_161 gC_49 rfl ?_
  refine Rg.step 22 F_Arranger_inUnits_21 rfl (fun _ => rfl) ?_
  refine Rg.getf 25 F_Arranger_inUnits_22 rfl rF_13_195 gC_12 rfl ?_
  refine Rg.step 26 F_Arranger_inUnits_25 rfl (fun _ => rfl) ?_
  refine Rg.lld 27 F_Arranger_inUnits_26 rfl gC_14 (by omega) (by decide) ?_
  refine Rg.divLp 28 F_Arranger_inUnits_27 rfl (by omega) (by omega) ?_
  refine Rg.mulL 29 F_Arranger_inUnits_28 rfl ?_
  refine Rg.step 33 F_Arranger_inUnits_29 rfl (fun _ => rfl) ?_
  exact Rg.retL F_Arranger_inUnits_33 rfl rfl rfl
theorem c_Ar_ref_le {d : Nat} {u : Int} (hu : 0 < u ∧ u ≤ 100000) {i : Int} (hi : 0 ≤ i ∧ i < 12) (hn : -100000000000000 ≤ leN i ∧ leN i ≤ 100000000000000) (hd : 0 < leD i ∧ leD i ≤ 1000000000000) : ∃ u1 sN sD, (∀ v, joinF u (leN i) (leD i) = some v → u1 = v) ∧ Cg false (d + 1) m_Arranger_refineUnit [.ref 49, .ref 56, .int (iI i)] (MC s0 s1 handN handD gT gF alE actions alM fiF fiN fiD epN epD goH goN goD plS plP plM plA plBN plBD plLN plLD plR veW veF veP vsF vsN vsD juM juP juTN juTD juO scN scD noF noN noD neF neN neD arP arB arM u arF arR arL arT arA arS leN leD grN grD arH arLU arGU shN shD stF stN stD rest) (.inl (some (.int (bP (∃ v, joinF u (leN i) (leD i) = some v))))) (MC s0 s1 handN handD gT gF alE actions alM fiF fiN fiD epN epD goH goN goD plS plP plM plA plBN plBD plLN plLD plR veW veF veP vsF vsN vsD juM juP juTN juTD juO scN scD noF noN noD neF neN neD arP arB arM u1 arF arR arL arT arA arS leN leD grN grD arH arLU arGU sN sD stF stN stD rest) := by
  have hg := gcd_b (p := u) (q := (leD i)) hd.1
  have hgu : (Int.gcd u (leD i) : Int) ≤ u := Int.le_of_dvd hu.1 (Int.gcd_dvd_left _ _)
  have q0 : 0 ≤ nN u (leD i) := Int.ediv_nonneg (by omega) (by omega)
  have q1 : nN u (leD i) ≤ u := Int.ediv_le_self _ (by omega)
  have hm := mul_bd (a := nN u (leD i)) (b := (leD i)) (A := 100000) (B := 1000000000000) (by omega) (by omega)
  have ej : joinF u (leN i) (leD i) = if 10000 * (leD i) < (leN i) then none else if nN u (leD i) * (leD i) ≤ 100000 then some (nN u (leD i) * (leD i)) else none := rfl
  refine ⟨nN u (leD i) * (leD i), up1 shN 0 (nN u (leD i)), up1 shD 0 (nD u (leD i)), fun v hv => ?_, ?_⟩
  · rw [ej] at hv
    split at hv
    · cases hv
    · split at hv
      · exact Option.some.inj hv
      · cases hv
  · refine Cg.of (Nat.le_of_ble_eq_true rfl) ?_
    change Rg _ _ _ _ 0 [(0, .ref 49), (1, .ref 56), (2, .int (iI i))] [] _ _ _
    refine Rg.step 1 F_Arranger_refineUnit_0 rfl (fun _ => rfl) ?_
    refine Rg.getf 4 F_Arranger_refineUnit_1 rfl rF_13_56 gC_49 rfl ?_
    refine Rg.step 5 F_Arranger_refineUnit_4 rfl (fun _ => rfl) ?_
    refine Rg.step 6 F_Arranger_refineUnit_5 rfl (fun _ => rfl) ?_
    refine Rg.getf 9 F_Arranger_refineUnit_6 rfl rF_13_161 gC_49 rfl ?_
    refine Rg.step 10 F_Arranger_refineUnit_9 rfl (fun _ => rfl) ?_
    refine Rg.getf 13 F_Arranger_refineUnit_10 rfl rF_13_195 gC_56 rfl ?_
    refine Rg.step 14 F_Arranger_refineUnit_13 rfl (fun _ => rfl) ?_
    refine Rg.lld 15 F_Arranger_refineUnit_14 rfl gC_58 (by omega) (by decide) ?_
    refine Rg.call 18 F_Arranger_refineUnit_15 rfl (one_V rM_13_165 (by decide) (by simp) rfl rfl gC_65 rfl) (Nat.le_of_ble_eq_true rfl) (Cg.toM sF_sh (c_FrI_put _ gF_sh (by decide) (by omega) (by omega))) ?_
    refine Rg.step 19 F_Arranger_refineUnit_18 rfl (fun _ => rfl) ?_
    refine Rg.step 20 F_Arranger_refineUnit_19 rfl (fun _ => rfl) ?_
    refine Rg.getf 23 F_Arranger_refineUnit_20 rfl rF_13_56 gC_49 rfl ?_
    refine Rg.getf 26 F_Arranger_refineUnit_23 rfl rF_13_198 gC_65 rfl ?_
    refine Rg.step 27 F_Arranger_refineUnit_26 rfl (fun _ => rfl) ?_
    refine Rg.lld 28 F_Arranger_refineUnit_27 rfl gC_66 (by omega) (by decide) ?_
    refine Rg.step 29 F_Arranger_refineUnit_28 rfl (fun _ => rfl) ?_
    refine Rg.getf 32 F_Arranger_refineUnit_29 rfl rF_13_195 gC_56 rfl ?_
    refine Rg.step 33 F_Arranger_refineUnit_32 rfl (fun _ => rfl) ?_
    refine Rg.lld 34 F_Arranger_refineUnit_33 rfl gC_58 (by omega) (by decide) ?_
    rw [up1_eq]
    refine Rg.mulL 35 F_Arranger_refineUnit_34 rfl ?_
    refine Rg.put 38 F_Arranger_refineUnit_35 rfl rF_13_161 gC_49 (by decide) (Nat.le_of_ble_eq_true rfl) (Or.inl rfl) rfl sO_arU ?_
    refine Rg.step 39 F_Arranger_refineUnit_38 rfl (fun _ => rfl) ?_
    refine Rg.getf 42 F_Arranger_refineUnit_39 rfl rF_13_161 gC_49 rfl ?_
    refine Rg.ldc2 (n := 100000) 45 F_Arranger_refineUnit_42 rfl rJ_13_201 rfl ?_
    refine Rg.lcgt 64 49 F_Arranger_refineUnit_45 F_Arranger_refineUnit_46 rfl rfl (by omega) (by omega) (fun h45 => ?_) (fun h45 => ?_)
    · refine Rg.step 65 F_Arranger_refineUnit_64 rfl (fun _ => rfl) ?_
      exact Rg.ret0 F_Arranger_refineUnit_65 rfl (fun ⟨v, hv⟩ => by rw [ej] at hv; split at hv; cases hv; rw [if_neg (by omega)] at hv; cases hv) rfl
    · refine Rg.step 50 F_Arranger_refineUnit_49 rfl (fun _ => rfl) ?_
      refine Rg.step 51 F_Arranger_refineUnit_50 rfl (fun _ => rfl) ?_
      refine Rg.ldc2 (n := 10000) 54 F_Arranger_refineUnit_51 rfl rJ_13_203 rfl ?_
      refine Rg.call 57 F_Arranger_refineUnit_54 rfl (one_V rM_13_205 (by decide) (by simp) rfl rfl gC_56 rfl) (Nat.le_of_ble_eq_true rfl) (Cg.any (c_Fr_isAbove gF_le hi (by decide) (by omega) (by omega))) ?_
      refine Rg.ifneP 64 60 F_Arranger_refineUnit_57 rfl rfl (fun h57 => ?_) (fun h57 => ?_)
      · refine Rg.step 65 F_Arranger_refineUnit_64 rfl (fun _ => rfl) ?_
        exact Rg.ret0 F_Arranger_refineUnit_65 rfl (fun ⟨v, hv⟩ => by rw [ej, if_pos h57] at hv; cases hv) rfl
      · refine Rg.step 61 F_Arranger_refineUnit_60 rfl (fun _ => rfl) ?_
        refine Rg.step 65 F_Arranger_refineUnit_61 rfl (fun _ => rfl) ?_
        exact Rg.ret1 F_Arranger_refineUnit_65 rfl (by rw [ej, if_neg (by omega), if_pos (by omega)]; exact ⟨_, rfl⟩) rfl
theorem c_Ar_inu_le {d : Nat}  {u : Int} (hu : 0 < u ∧ u ≤ 100000) {i : Int} (hi : 0 ≤ i ∧ i < 12) (hn : -100000000000000 ≤ leN i ∧ leN i ≤ 100000000000000) (hd : 0 < leD i ∧ leD i ≤ 1000000000000) : Cg true d m_Arranger_inUnits [.ref 49, .ref 56, .int (iI i)] (MC s0 s1 handN handD gT gF alE actions alM fiF fiN fiD epN epD goH goN goD plS plP plM plA plBN plBD plLN plLD plR veW veF veP vsF vsN vsD juM juP juTN juTD juO scN scD noF noN noD neF neN neD arP arB arM u arF arR arL arT arA arS leN leD grN grD arH arLU arGU shN shD stF stN stD rest) (.inl (some (.long (lI ((leN i) * (u / (leD i))))))) (MC s0 s1 handN handD gT gF alE actions alM fiF fiN fiD epN epD goH goN goD plS plP plM plA plBN plBD plLN plLD plR veW veF veP vsF vsN vsD juM juP juTN juTD juO scN scD noF noN noD neF neN neD arP arB arM u arF arR arL arT arA arS leN leD grN grD arH arLU arGU shN shD stF stN stD rest) := by
  refine Cg.of (Nat.le_of_ble_eq_true rfl) ?_
  change Rg _ _ _ _ 0 [(0, .ref 49), (1, .ref 56), (2, .int (iI i))] [] _ _ _
  refine Rg.step 1 F_Arranger_inUnits_0 rfl (fun _ => rfl) ?_
  refine Rg.getf 4 F_Arranger_inUnits_1 rfl rF_13_195 gC_56 rfl ?_
  refine Rg.step 5 F_Arranger_inUnits_4 rfl (fun _ => rfl) ?_
  refine Rg.lld 6 F_Arranger_inUnits_5 rfl gC_58 (by omega) (by decide) ?_
  refine Rg.lcn (n := 0) 7 F_Arranger_inUnits_6 rfl rfl ?_
  refine Rg.lcle 32 11 F_Arranger_inUnits_7 F_Arranger_inUnits_8 rfl rfl (by omega) (by omega) (fun h7 => by omega) (fun _ => ?_)
  refine Rg.step 12 F_Arranger_inUnits_11 rfl (fun _ => rfl) ?_
  refine Rg.getf 15 F_Arranger_inUnits_12 rfl rF_13_198 gC_56 rfl ?_
  refine Rg.step 16 F_Arranger_inUnits_15 rfl (fun _ => rfl) ?_
  refine Rg.lld 17 F_Arranger_inUnits_16 rfl gC_57 (by omega) (by decide) ?_
  refine Rg.step 18 F_Arranger_inUnits_17 rfl (fun _ => rfl) ?_
  refine Rg.getf 21 F_Arranger_inUnits_18 rfl rF_13_161 gC_49 rfl ?_
  refine Rg.step 22 F_Arranger_inUnits_21 rfl (fun _ => rfl) ?_
  refine Rg.getf 25 F_Arranger_inUnits_22 rfl rF_13_195 gC_56 rfl ?_
  refine Rg.step 26 F_Arranger_inUnits_25 rfl (fun _ => rfl) ?_
  refine Rg.lld 27 F_Arranger_inUnits_26 rfl gC_58 (by omega) (by decide) ?_
  refine Rg.divLp 28 F_Arranger_inUnits_27 rfl (by omega) (by omega) ?_
  refine Rg.mulL 29 F_Arranger_inUnits_28 rfl ?_
  refine Rg.step 33 F_Arranger_inUnits_29 rfl (fun _ => rfl) ?_
  exact Rg.retL F_Arranger_inUnits_33 rfl rfl rfl
theorem c_Ar_ref_gr {d : Nat} {u : Int} (hu : 0 < u ∧ u ≤ 100000) {i : Int} (hi : 0 ≤ i ∧ i < 12) (hn : -100000000000000 ≤ grN i ∧ grN i ≤ 100000000000000) (hd : 0 < grD i ∧ grD i ≤ 1000000000000) : ∃ u1 sN sD, (∀ v, joinF u (grN i) (grD i) = some v → u1 = v) ∧ Cg false (d + 1) m_Arranger_refineUnit [.ref 49, .ref 59, .int (iI i)] (MC s0 s1 handN handD gT gF alE actions alM fiF fiN fiD epN epD goH goN goD plS plP plM plA plBN plBD plLN plLD plR veW veF veP vsF vsN vsD juM juP juTN juTD juO scN scD noF noN noD neF neN neD arP arB arM u arF arR arL arT arA arS leN leD grN grD arH arLU arGU shN shD stF stN stD rest) (.inl (some (.int (bP (∃ v, joinF u (grN i) (grD i) = some v))))) (MC s0 s1 handN handD gT gF alE actions alM fiF fiN fiD epN epD goH goN goD plS plP plM plA plBN plBD plLN plLD plR veW veF veP vsF vsN vsD juM juP juTN juTD juO scN scD noF noN noD neF neN neD arP arB arM u1 arF arR arL arT arA arS leN leD grN grD arH arLU arGU sN sD stF stN stD rest) := by
  have hg := gcd_b (p := u) (q := (grD i)) hd.1
  have hgu : (Int.gcd u (grD i) : Int) ≤ u := Int.le_of_dvd hu.1 (Int.gcd_dvd_left _ _)
  have q0 : 0 ≤ nN u (grD i) := Int.ediv_nonneg (by omega) (by omega)
  have q1 : nN u (grD i) ≤ u := Int.ediv_le_self _ (by omega)
  have hm := mul_bd (a := nN u (grD i)) (b := (grD i)) (A := 100000) (B := 1000000000000) (by omega) (by omega)
  have ej : joinF u (grN i) (grD i) = if 10000 * (grD i) < (grN i) then none else if nN u (grD i) * (grD i) ≤ 100000 then some (nN u (grD i) * (grD i)) else none := rfl
  refine ⟨nN u (grD i) * (grD i), up1 shN 0 (nN u (grD i)), up1 shD 0 (nD u (grD i)), fun v hv => ?_, ?_⟩
  · rw [ej] at hv
    split at hv
    · cases hv
    · split at hv
      · exact Option.some.inj hv
      · cases hv
  · refine Cg.of (Nat.le_of_ble_eq_true rfl) ?_
    change Rg _ _ _ _ 0 [(0, .ref 49), (1, .ref 59), (2, .int (iI i))] [] _ _ _
    refine Rg.step 1 F_Arranger_refineUnit_0 rfl (fun _ => rfl) ?_
    refine Rg.getf 4 F_Arranger_refineUnit_1 rfl rF_13_56 gC_49 rfl ?_
    refine Rg.step 5 F_Arranger_refineUnit_4 rfl (fun _ => rfl) ?_
    refine Rg.step 6 F_Arranger_refineUnit_5 rfl (fun _ => rfl) ?_
    refine Rg.getf 9 F_Arranger_refineUnit_6 rfl rF_13_161 gC_49 rfl ?_
    refine Rg.step 10 F_Arranger_refineUnit_9 rfl (fun _ => rfl) ?_
    refine Rg.getf 13 F_Arranger_refineUnit_10 rfl rF_13_195 gC_59 rfl ?_
    refine Rg.step 14 F_Arranger_refineUnit_13 rfl (fun _ => rfl) ?_
    refine Rg.lld 15 F_Arranger_refineUnit_14 rfl gC_61 (by omega) (by decide) ?_
    refine Rg.call 18 F_Arranger_refineUnit_15 rfl (one_V rM_13_165 (by decide) (by simp) rfl rfl gC_65 rfl) (Nat.le_of_ble_eq_true rfl) (Cg.toM sF_sh (c_FrI_put _ gF_sh (by decide) (by omega) (by omega))) ?_
    refine Rg.step 19 F_Arranger_refineUnit_18 rfl (fun _ => rfl) ?_
    refine Rg.step 20 F_Arranger_refineUnit_19 rfl (fun _ => rfl) ?_
    refine Rg.getf 23 F_Arranger_refineUnit_20 rfl rF_13_56 gC_49 rfl ?_
    refine Rg.getf 26 F_Arranger_refineUnit_23 rfl rF_13_198 gC_65 rfl ?_
    refine Rg.step 27 F_Arranger_refineUnit_26 rfl (fun _ => rfl) ?_
    refine Rg.lld 28 F_Arranger_refineUnit_27 rfl gC_66 (by omega) (by decide) ?_
    refine Rg.step 29 F_Arranger_refineUnit_28 rfl (fun _ => rfl) ?_
    refine Rg.getf 32 F_Arranger_refineUnit_29 rfl rF_13_195 gC_59 rfl ?_
    refine Rg.step 33 F_Arranger_refineUnit_32 rfl (fun _ => rfl) ?_
    refine Rg.lld 34 F_Arranger_refineUnit_33 rfl gC_61 (by omega) (by decide) ?_
    rw [up1_eq]
    refine Rg.mulL 35 F_Arranger_refineUnit_34 rfl ?_
    refine Rg.put 38 F_Arranger_refineUnit_35 rfl rF_13_161 gC_49 (by decide) (Nat.le_of_ble_eq_true rfl) (Or.inl rfl) rfl sO_arU ?_
    refine Rg.step 39 F_Arranger_refineUnit_38 rfl (fun _ => rfl) ?_
    refine Rg.getf 42 F_Arranger_refineUnit_39 rfl rF_13_161 gC_49 rfl ?_
    refine Rg.ldc2 (n := 100000) 45 F_Arranger_refineUnit_42 rfl rJ_13_201 rfl ?_
    refine Rg.lcgt 64 49 F_Arranger_refineUnit_45 F_Arranger_refineUnit_46 rfl rfl (by omega) (by omega) (fun h45 => ?_) (fun h45 => ?_)
    · refine Rg.step 65 F_Arranger_refineUnit_64 rfl (fun _ => rfl) ?_
      exact Rg.ret0 F_Arranger_refineUnit_65 rfl (fun ⟨v, hv⟩ => by rw [ej] at hv; split at hv; cases hv; rw [if_neg (by omega)] at hv; cases hv) rfl
    · refine Rg.step 50 F_Arranger_refineUnit_49 rfl (fun _ => rfl) ?_
      refine Rg.step 51 F_Arranger_refineUnit_50 rfl (fun _ => rfl) ?_
      refine Rg.ldc2 (n := 10000) 54 F_Arranger_refineUnit_51 rfl rJ_13_203 rfl ?_
      refine Rg.call 57 F_Arranger_refineUnit_54 rfl (one_V rM_13_205 (by decide) (by simp) rfl rfl gC_59 rfl) (Nat.le_of_ble_eq_true rfl) (Cg.any (c_Fr_isAbove gF_gr hi (by decide) (by omega) (by omega))) ?_
      refine Rg.ifneP 64 60 F_Arranger_refineUnit_57 rfl rfl (fun h57 => ?_) (fun h57 => ?_)
      · refine Rg.step 65 F_Arranger_refineUnit_64 rfl (fun _ => rfl) ?_
        exact Rg.ret0 F_Arranger_refineUnit_65 rfl (fun ⟨v, hv⟩ => by rw [ej, if_pos h57] at hv; cases hv) rfl
      · refine Rg.step 61 F_Arranger_refineUnit_60 rfl (fun _ => rfl) ?_
        refine Rg.step 65 F_Arranger_refineUnit_61 rfl (fun _ => rfl) ?_
        exact Rg.ret1 F_Arranger_refineUnit_65 rfl (by rw [ej, if_neg (by omega), if_pos (by omega)]; exact ⟨_, rfl⟩) rfl
theorem c_Ar_inu_gr {d : Nat}  {u : Int} (hu : 0 < u ∧ u ≤ 100000) {i : Int} (hi : 0 ≤ i ∧ i < 12) (hn : -100000000000000 ≤ grN i ∧ grN i ≤ 100000000000000) (hd : 0 < grD i ∧ grD i ≤ 1000000000000) : Cg true d m_Arranger_inUnits [.ref 49, .ref 59, .int (iI i)] (MC s0 s1 handN handD gT gF alE actions alM fiF fiN fiD epN epD goH goN goD plS plP plM plA plBN plBD plLN plLD plR veW veF veP vsF vsN vsD juM juP juTN juTD juO scN scD noF noN noD neF neN neD arP arB arM u arF arR arL arT arA arS leN leD grN grD arH arLU arGU shN shD stF stN stD rest) (.inl (some (.long (lI ((grN i) * (u / (grD i))))))) (MC s0 s1 handN handD gT gF alE actions alM fiF fiN fiD epN epD goH goN goD plS plP plM plA plBN plBD plLN plLD plR veW veF veP vsF vsN vsD juM juP juTN juTD juO scN scD noF noN noD neF neN neD arP arB arM u arF arR arL arT arA arS leN leD grN grD arH arLU arGU shN shD stF stN stD rest) := by
  refine Cg.of (Nat.le_of_ble_eq_true rfl) ?_
  change Rg _ _ _ _ 0 [(0, .ref 49), (1, .ref 59), (2, .int (iI i))] [] _ _ _
  refine Rg.step 1 F_Arranger_inUnits_0 rfl (fun _ => rfl) ?_
  refine Rg.getf 4 F_Arranger_inUnits_1 rfl rF_13_195 gC_59 rfl ?_
  refine Rg.step 5 F_Arranger_inUnits_4 rfl (fun _ => rfl) ?_
  refine Rg.lld 6 F_Arranger_inUnits_5 rfl gC_61 (by omega) (by decide) ?_
  refine Rg.lcn (n := 0) 7 F_Arranger_inUnits_6 rfl rfl ?_
  refine Rg.lcle 32 11 F_Arranger_inUnits_7 F_Arranger_inUnits_8 rfl rfl (by omega) (by omega) (fun h7 => by omega) (fun _ => ?_)
  refine Rg.step 12 F_Arranger_inUnits_11 rfl (fun _ => rfl) ?_
  refine Rg.getf 15 F_Arranger_inUnits_12 rfl rF_13_198 gC_59 rfl ?_
  refine Rg.step 16 F_Arranger_inUnits_15 rfl (fun _ => rfl) ?_
  refine Rg.lld 17 F_Arranger_inUnits_16 rfl gC_60 (by omega) (by decide) ?_
  refine Rg.step 18 F_Arranger_inUnits_17 rfl (fun _ => rfl) ?_
  refine Rg.getf 21 F_Arranger_inUnits_18 rfl rF_13_161 gC_49 rfl ?_
  refine Rg.step 22 F_Arranger_inUnits_21 rfl (fun _ => rfl) ?_
  refine Rg.getf 25 F_Arranger_inUnits_22 rfl rF_13_195 gC_59 rfl ?_
  refine Rg.step 26 F_Arranger_inUnits_25 rfl (fun _ => rfl) ?_
  refine Rg.lld 27 F_Arranger_inUnits_26 rfl gC_61 (by omega) (by decide) ?_
  refine Rg.divLp 28 F_Arranger_inUnits_27 rfl (by omega) (by omega) ?_
  refine Rg.mulL 29 F_Arranger_inUnits_28 rfl ?_
  refine Rg.step 33 F_Arranger_inUnits_29 rfl (fun _ => rfl) ?_
  exact Rg.retL F_Arranger_inUnits_33 rfl rfl rfl
variable {lN lD gN gD : Int → Int} {m : Int}
theorem fu_out {d n0 : Nat} (hm : 0 ≤ m ∧ m ≤ 12) {k : Int} (hk : -2147483648 ≤ k ∧ k < 2147483648) {Q : Prop} (hQ : ¬ Q) : Rg false d m_Arranger_findUnit n0 17 [(3, .int (iI k)), (2, .int (bP False)), (0, .ref 49), (1, .ref 6)] [] (MC s0 s1 handN handD gT gF alE actions alM fiF fiN fiD epN epD goH goN goD plS plP plM plA plBN plBD plLN plLD plR veW veF veP vsF vsN vsD juM juP juTN juTD juO scN scD noF noN noD neF neN neD arP m arM arU arF arR arL arT arA arS leN leD grN grD arH arLU arGU shN shD stF stN stD rest) (.inl (some (.int (bP Q)))) (MC s0 s1 handN handD gT gF alE actions alM fiF fiN fiD epN epD goH goN goD plS plP plM plA plBN plBD plLN plLD plR veW veF veP vsF vsN vsD juM juP juTN juTD juO scN scD noF noN noD neF neN neD arP m arM arU arF arR arL arT arA arS leN leD grN grD arH arLU arGU shN shD stF stN stD rest) := by
  refine Rg.step 18 F_Arranger_findUnit_17 rfl (fun _ => rfl) ?_
  refine Rg.step 19 F_Arranger_findUnit_18 rfl (fun _ => rfl) ?_
  refine Rg.getf 22 F_Arranger_findUnit_19 rfl rF_13_68 gC_49 rfl ?_
  refine Rg.icgeI 74 25 F_Arranger_findUnit_22 rfl rfl (by omega) (by omega) (fun h22 => ?_) (fun h22 => ?_)
  · refine Rg.step 75 F_Arranger_findUnit_74 rfl (fun _ => rfl) ?_
    exact Rg.retP F_Arranger_findUnit_75 rfl ⟨False.elim, hQ⟩ rfl
  · refine Rg.step 26 F_Arranger_findUnit_25 rfl (fun _ => rfl) ?_
    refine Rg.ifeqP 74 29 F_Arranger_findUnit_26 rfl rfl (fun _ => ?_) (fun h26 => absurd h26 (fun z => z))
    refine Rg.step 75 F_Arranger_findUnit_74 rfl (fun _ => rfl) ?_
    exact Rg.retP F_Arranger_findUnit_75 rfl ⟨False.elim, hQ⟩ rfl
theorem fu_loop {d n0 : Nat} (hU : ∀ s, 0 ≤ s → s < m → leN s = lN s ∧ leD s = lD s ∧ (arH s ↔ ¬ gD s = 0) ∧ (¬ gD s = 0 → grN s = gN s ∧ grD s = gD s)) (hb : WB m lN lD gN gD) (hm : 0 ≤ m ∧ m ≤ 12) : ∀ (n : Nat) (k u : Int) (a b : Int → Int), k + n = m → 0 ≤ k → 0 < u ∧ u ≤ 100000 → ∃ u1 a1 b1, (∀ v, unitF lN lD gN gD n k u = some v → u1 = v) ∧ Rg false (d + 2) m_Arranger_findUnit n0 17 [(3, .int (iI k)), (2, .int (bP True)), (0, .ref 49), (1, .ref 6)] [] (MC s0 s1 handN handD gT gF alE actions alM fiF fiN fiD epN epD goH goN goD plS plP plM plA plBN plBD plLN plLD plR veW veF veP vsF vsN vsD juM juP juTN juTD juO scN scD noF noN noD neF neN neD arP m arM u arF arR arL arT arA arS leN leD grN grD arH arLU arGU a b stF stN stD rest) (.inl (some (.int (bP (∃ v, unitF lN lD gN gD n k u = some v))))) (MC s0 s1 handN handD gT gF alE actions alM fiF fiN fiD epN epD goH goN goD plS plP plM plA plBN plBD plLN plLD plR veW veF veP vsF vsN vsD juM juP juTN juTD juO scN scD noF noN noD neF neN neD arP m arM u1 arF arR arL arT arA arS leN leD grN grD arH arLU arGU a1 b1 stF stN stD rest) := by
  intro n
  induction n with
  | zero =>
    intro k u a b hk hk2 hu
    refine ⟨u, a, b, fun v z => Option.some.inj z, ?_⟩
    refine Rg.step 18 F_Arranger_findUnit_17 rfl (fun _ => rfl) ?_
    refine Rg.step 19 F_Arranger_findUnit_18 rfl (fun _ => rfl) ?_
    refine Rg.getf 22 F_Arranger_findUnit_19 rfl rF_13_68 gC_49 rfl ?_
    refine Rg.icgeI 74 25 F_Arranger_findUnit_22 rfl rfl (by omega) (by omega) (fun _ => ?_) (fun h22 => by omega)
    refine Rg.step 75 F_Arranger_findUnit_74 rfl (fun _ => rfl) ?_
    exact Rg.retP F_Arranger_findUnit_75 rfl ⟨fun _ => ⟨u, rfl⟩, fun _ => trivial⟩ rfl
  | succ n ih =>
    intro k u a b hk hk2 hu
    obtain ⟨b1, b2, b3⟩ := hb k hk2 (by omega)
    obtain ⟨c1, c2, c3, c4⟩ := hU k hk2 (by omega)
    obtain ⟨u1, sa, sb, i1, hc⟩ := c_Ar_ref_le (d := d) (s0 := s0) (s1 := s1) (rest := rest) (handN := handN) (handD := handD) (gT := gT) (gF := gF) (alE := alE) (alM := alM) (fiF := fiF) (fiN := fiN) (fiD := fiD) (epN := epN) (epD := epD) (goH := goH) (goN := goN) (goD := goD) (plS := plS) (plP := plP) (plM := plM) (plA := plA) (plBN := plBN) (plBD := plBD) (plLN := plLN) (plLD := plLD) (plR := plR) (veW := veW) (veF := veF) (veP := veP) (vsF := vsF) (vsN := vsN) (vsD := vsD) (juM := juM) (juP := juP) (juTN := juTN) (juTD := juTD) (juO := juO) (scN := scN) (scD := scD) (noF := noF) (noN := noN) (noD := noD) (neF := neF) (neN := neN) (neD := neD) (arP := arP) (arB := m) (arM := arM) (arF := arF) (arR := arR) (arL := arL) (arT := arT) (arA := arA) (arS := arS) (leN := leN) (leD := leD) (grN := grN) (grD := grD) (arH := arH) (arLU := arLU) (arGU := arGU) (shN := a) (shD := b) (stF := stF) (stN := stN) (stD := stD) hu (i := k) (by omega) (by omega) (by omega)
    rw [c1, c2] at i1 hc
    cases hj : joinF u (lN k) (lD k) with
    | none =>
      have hN : ¬ ∃ v, unitF lN lD gN gD (n + 1) k u = some v := by
        rintro ⟨v, hv⟩
        rw [unitF, hj] at hv
        cases hv
      have hx : ¬ ∃ v, joinF u (lN k) (lD k) = some v := by
        rintro ⟨v, hv⟩
        rw [hj] at hv
        cases hv
      refine ⟨u1, sa, sb, fun v z => absurd ⟨v, z⟩ hN, ?_⟩
      refine Rg.step 18 F_Arranger_findUnit_17 rfl (fun _ => rfl) ?_
      refine Rg.step 19 F_Arranger_findUnit_18 rfl (fun _ => rfl) ?_
      refine Rg.getf 22 F_Arranger_findUnit_19 rfl rF_13_68 gC_49 rfl ?_
      refine Rg.icgeI 74 25 F_Arranger_findUnit_22 rfl rfl (by omega) (by omega) (fun h22 => by omega) (fun _ => ?_)
      refine Rg.step 26 F_Arranger_findUnit_25 rfl (fun _ => rfl) ?_
      refine Rg.ifeqP 74 29 F_Arranger_findUnit_26 rfl rfl (fun h26 => absurd trivial h26) (fun _ => ?_)
      refine Rg.step 30 F_Arranger_findUnit_29 rfl (fun _ => rfl) ?_
      refine Rg.step 31 F_Arranger_findUnit_30 rfl (fun _ => rfl) ?_
      refine Rg.getf 34 F_Arranger_findUnit_31 rfl rF_13_39 gC_49 rfl ?_
      refine Rg.step 35 F_Arranger_findUnit_34 rfl (fun _ => rfl) ?_
      refine Rg.call 38 F_Arranger_findUnit_35 rfl (one_V rM_13_191 (by decide) (by simp) rfl rfl gC_49 rfl) (Nat.le_of_ble_eq_true rfl) hc ?_
      refine Rg.ifeqP 66 41 F_Arranger_findUnit_38 rfl rfl (fun _ => ?_) (fun h38 => absurd h38 hx)
      refine Rg.cP0 (B := False) 67 F_Arranger_findUnit_66 rfl (fun z => z) ?_
      refine Rg.step 68 F_Arranger_findUnit_67 rfl (fun _ => rfl) ?_
      refine Rg.inc 71 F_Arranger_findUnit_68 rfl rfl (by decide) ?_
      refine Rg.step 17 F_Arranger_findUnit_71 rfl (fun _ => rfl) ?_
      exact Rg.weak (fu_out (k := k + 1) hm (by omega) hN) (by simp [lput1, lput2, Value.category, fi0, fi1, fi2, fi3] <;> first | rfl | exact ⟨rfl, rfl⟩) (by simp [lput1, lput2, Value.category, fi0, fi1, fi2, fi3] <;> first | rfl | exact ⟨rfl, rfl⟩)
    | some w =>
      have e1 : u1 = w := i1 w hj
      subst e1
      have hx : ∃ v, joinF u (lN k) (lD k) = some v := ⟨u1, hj⟩
      have hu1 := (joinF_some hu b1.2.2.1 hj).1
      by_cases hg : gD k = 0
      · have hH : ¬ arH k := fun z => c3.mp z hg
        obtain ⟨u2, a2, b2', j1, ht⟩ := ih (k + 1) u1 sa sb (by omega) (by omega) hu1
        have he : unitF lN lD gN gD (n + 1) k u = unitF lN lD gN gD n (k + 1) u1 := by rw [unitF, hj, Option.bind_some, if_pos hg]
        rw [he]
        refine ⟨u2, a2, b2', j1, ?_⟩
        refine Rg.step 18 F_Arranger_findUnit_17 rfl (fun _ => rfl) ?_
        refine Rg.step 19 F_Arranger_findUnit_18 rfl (fun _ => rfl) ?_
        refine Rg.getf 22 F_Arranger_findUnit_19 rfl rF_13_68 gC_49 rfl ?_
        refine Rg.icgeI 74 25 F_Arranger_findUnit_22 rfl rfl (by omega) (by omega) (fun h22 => by omega) (fun _ => ?_)
        refine Rg.step 26 F_Arranger_findUnit_25 rfl (fun _ => rfl) ?_
        refine Rg.ifeqP 74 29 F_Arranger_findUnit_26 rfl rfl (fun h26 => absurd trivial h26) (fun _ => ?_)
        refine Rg.step 30 F_Arranger_findUnit_29 rfl (fun _ => rfl) ?_
        refine Rg.step 31 F_Arranger_findUnit_30 rfl (fun _ => rfl) ?_
        refine Rg.getf 34 F_Arranger_findUnit_31 rfl rF_13_39 gC_49 rfl ?_
        refine Rg.step 35 F_Arranger_findUnit_34 rfl (fun _ => rfl) ?_
        refine Rg.call 38 F_Arranger_findUnit_35 rfl (one_V rM_13_191 (by decide) (by simp) rfl rfl gC_49 rfl) (Nat.le_of_ble_eq_true rfl) hc ?_
        refine Rg.ifeqP 66 41 F_Arranger_findUnit_38 rfl rfl (fun h38 => absurd hx h38) (fun _ => ?_)
        refine Rg.step 42 F_Arranger_findUnit_41 rfl (fun _ => rfl) ?_
        refine Rg.getf 45 F_Arranger_findUnit_42 rfl rF_13_46 gC_49 rfl ?_
        refine Rg.step 46 F_Arranger_findUnit_45 rfl (fun _ => rfl) ?_
        refine Rg.zld 47 F_Arranger_findUnit_46 rfl gC_62 (by omega) (by decide) ?_
        refine Rg.ifeqP 62 50 F_Arranger_findUnit_47 rfl rfl (fun _ => ?_) (fun h47 => absurd h47 hH)
        refine Rg.cP1 (B := True) 63 F_Arranger_findUnit_62 rfl trivial ?_
        refine Rg.step 67 F_Arranger_findUnit_63 rfl (fun _ => rfl) ?_
        refine Rg.step 68 F_Arranger_findUnit_67 rfl (fun _ => rfl) ?_
        refine Rg.inc 71 F_Arranger_findUnit_68 rfl rfl (by decide) ?_
        refine Rg.step 17 F_Arranger_findUnit_71 rfl (fun _ => rfl) ?_
        exact Rg.weak ht (by simp [lput1, lput2, Value.category, fi0, fi1, fi2, fi3] <;> first | rfl | exact ⟨rfl, rfl⟩) (by simp [lput1, lput2, Value.category, fi0, fi1, fi2, fi3] <;> first | rfl | exact ⟨rfl, rfl⟩)
      · have hH : arH k := c3.mpr hg
        have b4 := b3 hg
        obtain ⟨c5, c6⟩ := c4 hg
        obtain ⟨u2, ta, tb, i2, hc2⟩ := c_Ar_ref_gr (d := d) (s0 := s0) (s1 := s1) (rest := rest) (handN := handN) (handD := handD) (gT := gT) (gF := gF) (alE := alE) (alM := alM) (fiF := fiF) (fiN := fiN) (fiD := fiD) (epN := epN) (epD := epD) (goH := goH) (goN := goN) (goD := goD) (plS := plS) (plP := plP) (plM := plM) (plA := plA) (plBN := plBN) (plBD := plBD) (plLN := plLN) (plLD := plLD) (plR := plR) (veW := veW) (veF := veF) (veP := veP) (vsF := vsF) (vsN := vsN) (vsD := vsD) (juM := juM) (juP := juP) (juTN := juTN) (juTD := juTD) (juO := juO) (scN := scN) (scD := scD) (noF := noF) (noN := noN) (noD := noD) (neF := neF) (neN := neN) (neD := neD) (arP := arP) (arB := m) (arM := arM) (arF := arF) (arR := arR) (arL := arL) (arT := arT) (arA := arA) (arS := arS) (leN := leN) (leD := leD) (grN := grN) (grD := grD) (arH := arH) (arLU := arLU) (arGU := arGU) (shN := sa) (shD := sb) (stF := stF) (stN := stN) (stD := stD) hu1 (i := k) (by omega) (by omega) (by omega)
        rw [c5, c6] at i2 hc2
        cases hj2 : joinF u1 (gN k) (gD k) with
        | none =>
          have hN : ¬ ∃ v, unitF lN lD gN gD (n + 1) k u = some v := by
            rintro ⟨v, hv⟩
            rw [unitF, hj, Option.bind_some, if_neg hg, hj2] at hv
            cases hv
          have hx2 : ¬ ∃ v, joinF u1 (gN k) (gD k) = some v := by
            rintro ⟨v, hv⟩
            rw [hj2] at hv
            cases hv
          refine ⟨u2, ta, tb, fun v z => absurd ⟨v, z⟩ hN, ?_⟩
          refine Rg.step 18 F_Arranger_findUnit_17 rfl (fun _ => rfl) ?_
          refine Rg.step 19 F_Arranger_findUnit_18 rfl (fun _ => rfl) ?_
          refine Rg.getf 22 F_Arranger_findUnit_19 rfl rF_13_68 gC_49 rfl ?_
          refine Rg.icgeI 74 25 F_Arranger_findUnit_22 rfl rfl (by omega) (by omega) (fun h22 => by omega) (fun _ => ?_)
          refine Rg.step 26 F_Arranger_findUnit_25 rfl (fun _ => rfl) ?_
          refine Rg.ifeqP 74 29 F_Arranger_findUnit_26 rfl rfl (fun h26 => absurd trivial h26) (fun _ => ?_)
          refine Rg.step 30 F_Arranger_findUnit_29 rfl (fun _ => rfl) ?_
          refine Rg.step 31 F_Arranger_findUnit_30 rfl (fun _ => rfl) ?_
          refine Rg.getf 34 F_Arranger_findUnit_31 rfl rF_13_39 gC_49 rfl ?_
          refine Rg.step 35 F_Arranger_findUnit_34 rfl (fun _ => rfl) ?_
          refine Rg.call 38 F_Arranger_findUnit_35 rfl (one_V rM_13_191 (by decide) (by simp) rfl rfl gC_49 rfl) (Nat.le_of_ble_eq_true rfl) hc ?_
          refine Rg.ifeqP 66 41 F_Arranger_findUnit_38 rfl rfl (fun h38 => absurd hx h38) (fun _ => ?_)
          refine Rg.step 42 F_Arranger_findUnit_41 rfl (fun _ => rfl) ?_
          refine Rg.getf 45 F_Arranger_findUnit_42 rfl rF_13_46 gC_49 rfl ?_
          refine Rg.step 46 F_Arranger_findUnit_45 rfl (fun _ => rfl) ?_
          refine Rg.zld 47 F_Arranger_findUnit_46 rfl gC_62 (by omega) (by decide) ?_
          refine Rg.ifeqP 62 50 F_Arranger_findUnit_47 rfl rfl (fun h47 => absurd hH h47) (fun _ => ?_)
          refine Rg.step 51 F_Arranger_findUnit_50 rfl (fun _ => rfl) ?_
          refine Rg.step 52 F_Arranger_findUnit_51 rfl (fun _ => rfl) ?_
          refine Rg.getf 55 F_Arranger_findUnit_52 rfl rF_13_43 gC_49 rfl ?_
          refine Rg.step 56 F_Arranger_findUnit_55 rfl (fun _ => rfl) ?_
          refine Rg.call 59 F_Arranger_findUnit_56 rfl (one_V rM_13_191 (by decide) (by simp) rfl rfl gC_49 rfl) (Nat.le_of_ble_eq_true rfl) hc2 ?_
          refine Rg.ifeqP 66 62 F_Arranger_findUnit_59 rfl rfl (fun _ => ?_) (fun h59 => absurd h59 hx2)
          refine Rg.cP0 (B := False) 67 F_Arranger_findUnit_66 rfl (fun z => z) ?_
          refine Rg.step 68 F_Arranger_findUnit_67 rfl (fun _ => rfl) ?_
          refine Rg.inc 71 F_Arranger_findUnit_68 rfl rfl (by decide) ?_
          refine Rg.step 17 F_Arranger_findUnit_71 rfl (fun _ => rfl) ?_
          exact Rg.weak (fu_out (k := k + 1) hm (by omega) hN) (by simp [lput1, lput2, Value.category, fi0, fi1, fi2, fi3] <;> first | rfl | exact ⟨rfl, rfl⟩) (by simp [lput1, lput2, Value.category, fi0, fi1, fi2, fi3] <;> first | rfl | exact ⟨rfl, rfl⟩)
        | some w =>
          have e2 : u2 = w := i2 w hj2
          subst e2
          have hx2 : ∃ v, joinF u1 (gN k) (gD k) = some v := ⟨u2, hj2⟩
          have hu2 := (joinF_some hu1 (by omega) hj2).1
          obtain ⟨u3, a3, b3', j1, ht⟩ := ih (k + 1) u2 ta tb (by omega) (by omega) hu2
          have he : unitF lN lD gN gD (n + 1) k u = unitF lN lD gN gD n (k + 1) u2 := by rw [unitF, hj, Option.bind_some, if_neg hg, hj2, Option.bind_some]
          rw [he]
          refine ⟨u3, a3, b3', j1, ?_⟩
          refine Rg.step 18 F_Arranger_findUnit_17 rfl (fun _ => rfl) ?_
          refine Rg.step 19 F_Arranger_findUnit_18 rfl (fun _ => rfl) ?_
          refine Rg.getf 22 F_Arranger_findUnit_19 rfl rF_13_68 gC_49 rfl ?_
          refine Rg.icgeI 74 25 F_Arranger_findUnit_22 rfl rfl (by omega) (by omega) (fun h22 => by omega) (fun _ => ?_)
          refine Rg.step 26 F_Arranger_findUnit_25 rfl (fun _ => rfl) ?_
          refine Rg.ifeqP 74 29 F_Arranger_findUnit_26 rfl rfl (fun h26 => absurd trivial h26) (fun _ => ?_)
          refine Rg.step 30 F_Arranger_findUnit_29 rfl (fun _ => rfl) ?_
          refine Rg.step 31 F_Arranger_findUnit_30 rfl (fun _ => rfl) ?_
          refine Rg.getf 34 F_Arranger_findUnit_31 rfl rF_13_39 gC_49 rfl ?_
          refine Rg.step 35 F_Arranger_findUnit_34 rfl (fun _ => rfl) ?_
          refine Rg.call 38 F_Arranger_findUnit_35 rfl (one_V rM_13_191 (by decide) (by simp) rfl rfl gC_49 rfl) (Nat.le_of_ble_eq_true rfl) hc ?_
          refine Rg.ifeqP 66 41 F_Arranger_findUnit_38 rfl rfl (fun h38 => absurd hx h38) (fun _ => ?_)
          refine Rg.step 42 F_Arranger_findUnit_41 rfl (fun _ => rfl) ?_
          refine Rg.getf 45 F_Arranger_findUnit_42 rfl rF_13_46 gC_49 rfl ?_
          refine Rg.step 46 F_Arranger_findUnit_45 rfl (fun _ => rfl) ?_
          refine Rg.zld 47 F_Arranger_findUnit_46 rfl gC_62 (by omega) (by decide) ?_
          refine Rg.ifeqP 62 50 F_Arranger_findUnit_47 rfl rfl (fun h47 => absurd hH h47) (fun _ => ?_)
          refine Rg.step 51 F_Arranger_findUnit_50 rfl (fun _ => rfl) ?_
          refine Rg.step 52 F_Arranger_findUnit_51 rfl (fun _ => rfl) ?_
          refine Rg.getf 55 F_Arranger_findUnit_52 rfl rF_13_43 gC_49 rfl ?_
          refine Rg.step 56 F_Arranger_findUnit_55 rfl (fun _ => rfl) ?_
          refine Rg.call 59 F_Arranger_findUnit_56 rfl (one_V rM_13_191 (by decide) (by simp) rfl rfl gC_49 rfl) (Nat.le_of_ble_eq_true rfl) hc2 ?_
          refine Rg.ifeqP 66 62 F_Arranger_findUnit_59 rfl rfl (fun h59 => absurd hx2 h59) (fun _ => ?_)
          refine Rg.cP1 (B := True) 63 F_Arranger_findUnit_62 rfl trivial ?_
          refine Rg.step 67 F_Arranger_findUnit_63 rfl (fun _ => rfl) ?_
          refine Rg.step 68 F_Arranger_findUnit_67 rfl (fun _ => rfl) ?_
          refine Rg.inc 71 F_Arranger_findUnit_68 rfl rfl (by decide) ?_
          refine Rg.step 17 F_Arranger_findUnit_71 rfl (fun _ => rfl) ?_
          exact Rg.weak ht (by simp [lput1, lput2, Value.category, fi0, fi1, fi2, fi3] <;> first | rfl | exact ⟨rfl, rfl⟩) (by simp [lput1, lput2, Value.category, fi0, fi1, fi2, fi3] <;> first | rfl | exact ⟨rfl, rfl⟩)
theorem c_Ar_findUnit {d : Nat} (hw : WT epsilonN epsilonD wishes wants wantN wantD actions needs needTime needOf needHow needN needD changes changeTime changeOf changeHow changeN changeD lastOf lastN lastD firstN firstD) (hE : epN 0 = epsilonN ∧ epD 0 = epsilonD) (hU : ∀ s, 0 ≤ s → s < m → leN s = lN s ∧ leD s = lD s ∧ (arH s ↔ ¬ gD s = 0) ∧ (¬ gD s = 0 → grN s = gN s ∧ grD s = gD s)) (hb : WB m lN lD gN gD) (hm : 0 ≤ m ∧ m ≤ 12) : ∃ u1 a1 b1, (∀ v, unitA epsilonN epsilonD m lN lD gN gD = some v → u1 = v) ∧ Cg false (d + 2) m_Arranger_findUnit [.ref 49, .ref 6] (MC s0 s1 handN handD gT gF alE actions alM fiF fiN fiD epN epD goH goN goD plS plP plM plA plBN plBD plLN plLD plR veW veF veP vsF vsN vsD juM juP juTN juTD juO scN scD noF noN noD neF neN neD arP m arM arU arF arR arL arT arA arS leN leD grN grD arH arLU arGU shN shD stF stN stD rest) (.inl (some (.int (bP (∃ v, unitA epsilonN epsilonD m lN lD gN gD = some v))))) (MC s0 s1 handN handD gT gF alE actions alM fiF fiN fiD epN epD goH goN goD plS plP plM plA plBN plBD plLN plLD plR veW veF veP vsF vsN vsD juM juP juTN juTD juO scN scD noF noN noD neF neN neD arP m arM u1 arF arR arL arT arA arS leN leD grN grD arH arLU arGU a1 b1 stF stN stD rest) := by
  obtain ⟨wE, -, -, -, -, -, -, -, -, -, -, -, -, -, -, -, -, -, -, -, -⟩ := id hw
  obtain ⟨u0, sa, sb, i0, hc⟩ := c_Ar_ref_ep (d := d) (u := 1) (s0 := s0) (s1 := s1) (rest := rest) (handN := handN) (handD := handD) (gT := gT) (gF := gF) (alE := alE) (alM := alM) (fiF := fiF) (fiN := fiN) (fiD := fiD) (epN := epN) (epD := epD) (goH := goH) (goN := goN) (goD := goD) (plS := plS) (plP := plP) (plM := plM) (plA := plA) (plBN := plBN) (plBD := plBD) (plLN := plLN) (plLD := plLD) (plR := plR) (veW := veW) (veF := veF) (veP := veP) (vsF := vsF) (vsN := vsN) (vsD := vsD) (juM := juM) (juP := juP) (juTN := juTN) (juTD := juTD) (juO := juO) (scN := scN) (scD := scD) (noF := noF) (noN := noN) (noD := noD) (neF := neF) (neN := neN) (neD := neD) (arP := arP) (arB := m) (arM := arM) (arF := arF) (arR := arR) (arL := arL) (arT := arT) (arA := arA) (arS := arS) (leN := leN) (leD := leD) (grN := grN) (grD := grD) (arH := arH) (arLU := arLU) (arGU := arGU) (shN := shN) (shD := shD) (stF := stF) (stN := stN) (stD := stD) (by omega) (i := 0) (by omega) (by omega) (by omega)
  rw [hE.1, hE.2] at i0 hc
  cases hj : joinF 1 epsilonN epsilonD with
  | none =>
    have hN : ¬ ∃ v, unitA epsilonN epsilonD m lN lD gN gD = some v := by
      rintro ⟨v, hv⟩
      rw [unitA, hj] at hv
      cases hv
    have hx : ¬ ∃ v, joinF 1 epsilonN epsilonD = some v := by
      rintro ⟨v, hv⟩
      rw [hj] at hv
      cases hv
    refine ⟨u0, sa, sb, fun v z => absurd ⟨v, z⟩ hN, ?_⟩
    refine Cg.of (Nat.le_of_ble_eq_true rfl) ?_
    change Rg _ _ _ _ 0 [(0, .ref 49), (1, .ref 6)] [] _ _ _
    rw [show (∃ v, joinF 1 epsilonN epsilonD = some v) = False from propext ⟨hx, False.elim⟩] at hc
    refine Rg.step 1 F_Arranger_findUnit_0 rfl (fun _ => rfl) ?_
    refine Rg.lcn (n := 1) 2 F_Arranger_findUnit_1 rfl rfl ?_
    refine Rg.put 5 F_Arranger_findUnit_2 rfl rF_13_161 gC_49 (by decide) (Nat.le_of_ble_eq_true rfl) (Or.inl rfl) rfl sO_arU ?_
    refine Rg.step 6 F_Arranger_findUnit_5 rfl (fun _ => rfl) ?_
    refine Rg.step 7 F_Arranger_findUnit_6 rfl (fun _ => rfl) ?_
    refine Rg.getf 10 F_Arranger_findUnit_7 rfl rF_13_176 gC_6 rfl ?_
    refine Rg.step 11 F_Arranger_findUnit_10 rfl (fun _ => rfl) ?_
    refine Rg.call 14 F_Arranger_findUnit_11 rfl (one_V rM_13_191 (by decide) (by simp) rfl rfl gC_49 rfl) (Nat.le_of_ble_eq_true rfl) hc ?_
    refine Rg.step 15 F_Arranger_findUnit_14 rfl (fun _ => rfl) ?_
    refine Rg.step 16 F_Arranger_findUnit_15 rfl (fun _ => rfl) ?_
    refine Rg.step 17 F_Arranger_findUnit_16 rfl (fun _ => rfl) ?_
    exact Rg.weak (fu_out (k := 0) hm (by omega) hN) (by simp [lput1, lput2, Value.category, fi0, fi1, fi2, fi3] <;> first | rfl | exact ⟨rfl, rfl⟩) (by simp [lput1, lput2, Value.category, fi0, fi1, fi2, fi3] <;> first | rfl | exact ⟨rfl, rfl⟩)
  | some w =>
    have e1 : u0 = w := i0 w hj
    subst e1
    have hx : ∃ v, joinF 1 epsilonN epsilonD = some v := ⟨u0, hj⟩
    have hu1 := (joinF_some (u := 1) (by omega) wE.2.2.1 hj).1
    obtain ⟨u1, a1, b1, j1, ht⟩ := fu_loop (d := d) (n0 := (MC s0 s1 handN handD gT gF alE actions alM fiF fiN fiD epN epD goH goN goD plS plP plM plA plBN plBD plLN plLD plR veW veF veP vsF vsN vsD juM juP juTN juTD juO scN scD noF noN noD neF neN neD arP m arM arU arF arR arL arT arA arS leN leD grN grD arH arLU arGU shN shD stF stN stD rest).length) (s0 := s0) (s1 := s1) (rest := rest) (handN := handN) (handD := handD) (gT := gT) (gF := gF) (alE := alE) (alM := alM) (fiF := fiF) (fiN := fiN) (fiD := fiD) (epN := epN) (epD := epD) (goH := goH) (goN := goN) (goD := goD) (plS := plS) (plP := plP) (plM := plM) (plA := plA) (plBN := plBN) (plBD := plBD) (plLN := plLN) (plLD := plLD) (plR := plR) (veW := veW) (veF := veF) (veP := veP) (vsF := vsF) (vsN := vsN) (vsD := vsD) (juM := juM) (juP := juP) (juTN := juTN) (juTD := juTD) (juO := juO) (scN := scN) (scD := scD) (noF := noF) (noN := noN) (noD := noD) (neF := neF) (neN := neN) (neD := neD) (arP := arP) (arM := arM) (arF := arF) (arR := arR) (arL := arL) (arT := arT) (arA := arA) (arS := arS) (leN := leN) (leD := leD) (grN := grN) (grD := grD) (arH := arH) (arLU := arLU) (arGU := arGU) (stF := stF) (stN := stN) (stD := stD) hU hb hm m.toNat 0 u0 sa sb (by omega) (by omega) hu1
    have he : unitA epsilonN epsilonD m lN lD gN gD = unitF lN lD gN gD m.toNat 0 u0 := by rw [unitA, hj, Option.bind_some]
    rw [he]
    refine ⟨u1, a1, b1, j1, ?_⟩
    refine Cg.of (Nat.le_of_ble_eq_true rfl) ?_
    change Rg _ _ _ _ 0 [(0, .ref 49), (1, .ref 6)] [] _ _ _
    rw [show (∃ v, joinF 1 epsilonN epsilonD = some v) = True from propext ⟨fun _ => trivial, fun _ => hx⟩] at hc
    refine Rg.step 1 F_Arranger_findUnit_0 rfl (fun _ => rfl) ?_
    refine Rg.lcn (n := 1) 2 F_Arranger_findUnit_1 rfl rfl ?_
    refine Rg.put 5 F_Arranger_findUnit_2 rfl rF_13_161 gC_49 (by decide) (Nat.le_of_ble_eq_true rfl) (Or.inl rfl) rfl sO_arU ?_
    refine Rg.step 6 F_Arranger_findUnit_5 rfl (fun _ => rfl) ?_
    refine Rg.step 7 F_Arranger_findUnit_6 rfl (fun _ => rfl) ?_
    refine Rg.getf 10 F_Arranger_findUnit_7 rfl rF_13_176 gC_6 rfl ?_
    refine Rg.step 11 F_Arranger_findUnit_10 rfl (fun _ => rfl) ?_
    refine Rg.call 14 F_Arranger_findUnit_11 rfl (one_V rM_13_191 (by decide) (by simp) rfl rfl gC_49 rfl) (Nat.le_of_ble_eq_true rfl) hc ?_
    refine Rg.step 15 F_Arranger_findUnit_14 rfl (fun _ => rfl) ?_
    refine Rg.step 16 F_Arranger_findUnit_15 rfl (fun _ => rfl) ?_
    refine Rg.step 17 F_Arranger_findUnit_16 rfl (fun _ => rfl) ?_
    exact Rg.weak ht (by simp [lput1, lput2, Value.category, fi0, fi1, fi2, fi3] <;> first | rfl | exact ⟨rfl, rfl⟩) (by simp [lput1, lput2, Value.category, fi0, fi1, fi2, fi3] <;> first | rfl | exact ⟨rfl, rfl⟩)
end R75
