/-! Numbers of the reference. -/
theorem gcd_step {x y : Int} (hx : 0 ≤ x) (hy : 0 < y) : Int.gcd y (x % y) = Int.gcd x y := by
  obtain ⟨m, rfl⟩ := Int.eq_ofNat_of_zero_le hx
  obtain ⟨n, rfl⟩ := Int.eq_ofNat_of_zero_le (Int.le_of_lt hy)
  rw [← Int.natCast_emod, Int.gcd_natCast_natCast, Int.gcd_natCast_natCast, Nat.gcd_comm n, ← Nat.gcd_rec, Nat.gcd_comm]
theorem tdiv_gcd {n : Int} {g : Int} (h : g ∣ n) : n.tdiv g = n / g := by
  obtain ⟨k, rfl⟩ := h
  by_cases hg : g = 0
  · subst hg; simp
  · rw [Int.mul_tdiv_cancel_left _ hg, Int.mul_ediv_cancel_left _ hg]
theorem fl_eq {n d : Int} (hd : 0 < d) : (if n.tmod d < 0 then n.tdiv d - 1 else n.tdiv d) = n / d := by
  have h1 := Int.mul_tdiv_add_tmod n d
  have h2 := Int.tmod_lt_of_pos n hd
  have h3 := Int.lt_tmod_of_pos n hd
  generalize n.tdiv d = q at *
  generalize n.tmod d = r at *
  split
  · refine ((Int.ediv_emod_unique (r := r + d) hd).mpr ⟨?_, by omega, by omega⟩).1.symm
    rw [Int.mul_sub]; omega
  · refine ((Int.ediv_emod_unique (r := r) hd).mpr ⟨?_, by omega, by omega⟩).1.symm
    omega
def cmpF (n d m e : Int) : Int := if n * e < m * d then -1 else if n * e = m * d then 0 else 1
theorem cmpF_lt {a b c f : Int} (hb : 0 < b) (hf : 0 < f) (h : a / b < c / f) : cmpF a b c f = -1 := by
  have h1 := Int.lt_ediv_add_one_mul_self a hb
  have h2 := Int.ediv_mul_le c (Int.ne_of_gt hf)
  unfold cmpF
  rw [if_pos]
  have h3 : a < (c / f) * b := Int.lt_of_lt_of_le h1 (Int.mul_le_mul_of_nonneg_right (by omega) (by omega))
  have h4 : a * f < (c / f) * b * f := Int.mul_lt_mul_of_pos_right h3 hf
  have h5 : (c / f) * f * b ≤ c * b := Int.mul_le_mul_of_nonneg_right h2 (by omega)
  have h6 : (c / f) * b * f = (c / f) * f * b := by rw [Int.mul_assoc, Int.mul_comm b f, ← Int.mul_assoc]
  omega
theorem cmpF_sw (a b c f : Int) : cmpF c f a b = - cmpF a b c f := by
  unfold cmpF
  split <;> split <;> (try split) <;> omega
theorem cmpF_gt {a b c f : Int} (hb : 0 < b) (hf : 0 < f) (h : c / f < a / b) : cmpF a b c f = 1 := by
  rw [cmpF_sw, cmpF_lt hf hb h]; rfl
theorem cmpF_sub {a b c f p : Int} : cmpF a b c f = cmpF (a - p * b) b (c - p * f) f := by
  unfold cmpF
  have e1 : (a - p * b) * f = a * f - p * b * f := Int.sub_mul _ _ _
  have e2 : (c - p * f) * b = c * b - p * f * b := Int.sub_mul _ _ _
  have e3 : p * f * b = p * b * f := by rw [Int.mul_assoc, Int.mul_comm f b, ← Int.mul_assoc]
  rw [e1, e2, e3]
  split <;> split <;> (try split) <;> (try split) <;> omega
theorem cmpF_turn (x b y f : Int) : cmpF x b y f = cmpF f y b x := by
  unfold cmpF
  rw [Int.mul_comm x f, Int.mul_comm y b]
theorem cmpF_zero {x b y f : Int} (hb : 0 < b) (hf : 0 < f) (hx : 0 ≤ x) (hy : 0 ≤ y) (h : x = 0 ∨ y = 0) : cmpF x b y f = if x = y then 0 else if x = 0 then -1 else 1 := by
  unfold cmpF
  by_cases h1 : x = 0
  · subst h1
    by_cases h2 : y = 0
    · subst h2; simp
    · have : 0 < y * b := Int.mul_pos (by omega) hb
      simp [this, Ne.symm h2]
  · have h2 : y = 0 := by omega
    subst h2
    have : 0 < x * f := Int.mul_pos (by omega) hf
    simp [h1]; omega
theorem ediv_bd {n b : Int} (hb : 0 < b) : (0 ≤ n → 0 ≤ n / b ∧ n / b ≤ n) ∧ (n < 0 → n ≤ n / b ∧ n / b < 0) := by
  refine ⟨fun h => ⟨Int.ediv_nonneg h (by omega), Int.ediv_le_self _ h⟩, fun h => ⟨?_, Int.ediv_neg_of_neg_of_pos h hb⟩⟩
  have h1 := Int.lt_ediv_add_one_mul_self n hb
  have h2 : n / b < 0 := Int.ediv_neg_of_neg_of_pos h hb
  refine (Int.le_ediv_iff_mul_le hb).mpr ?_
  have h3 : n * b ≤ n * 1 := Int.mul_le_mul_of_nonpos_left (by omega) (by omega)
  omega
/-- a fraction in lowest terms -/
def nN (n d : Int) : Int := n / (Int.gcd n d : Int)
def nD (n d : Int) : Int := d / (Int.gcd n d : Int)
def cmps (how o : Int) : Prop := (how = 0 ∧ o < 0) ∨ (how = 1 ∧ o ≤ 0) ∨ (how = 2 ∧ o = 0) ∨ (how = 3 ∧ 0 ≤ o) ∨ (¬ how = 0 ∧ ¬ how = 1 ∧ ¬ how = 2 ∧ ¬ how = 3 ∧ 0 < o)
section R42
variable {pre post mem : AM}
variable {code amountN amountD momentN momentD epsilonN epsilonD actions steps rows tried triedRows unit point judged fault faultPoint outN outD : Int}
variable {firstN firstD wishes wants wantN wantD needs needTime needOf needHow needN needD changes changeTime changeOf changeHow changeN changeD lastOf lastN lastD stepAction startN startD lengthN lengthD row triedAction triedRow times numN numD oldN oldD toldN toldD pointN pointD leastN leastD greatestN greatestD events : Int → Int}
variable {firstFacts facts oldFacts toldFacts gone now : Int → Prop}
theorem c_Mo_in {d : Nat}  {v lo hi : Int} (b0 : -2147483648 ≤ v ∧ v < 2147483648) (b1 : -2147483648 ≤ lo ∧ lo < 2147483648) (b2 : -2147483648 ≤ hi ∧ hi < 2147483648) : Cg true d m_Mo_in [.int (iI v), .int (iI lo), .int (iI hi)] mem (.inl (some (.int (bP (lo ≤ v ∧ v ≤ hi))))) mem := by
  refine Cg.of (Nat.le_of_ble_eq_true rfl) ?_
  change Rg _ _ _ _ 0 [(0, .int (iI v)), (1, .int (iI lo)), (2, .int (iI hi))] [] _ _ _
  refine Rg.step 1 F_Mo_in_0 rfl (fun _ => rfl) ?_
  refine Rg.step 2 F_Mo_in_1 rfl (fun _ => rfl) ?_
  refine Rg.icltI 14 5 F_Mo_in_2 rfl rfl (by omega) (by omega) (fun h2 => ?_) (fun h2 => ?_)
  · refine Rg.step 15 F_Mo_in_14 rfl (fun _ => rfl) ?_
    exact Rg.ret0 F_Mo_in_15 rfl (by omega) rfl
  · refine Rg.step 6 F_Mo_in_5 rfl (fun _ => rfl) ?_
    refine Rg.step 7 F_Mo_in_6 rfl (fun _ => rfl) ?_
    refine Rg.icgtI 14 10 F_Mo_in_7 rfl rfl (by omega) (by omega) (fun h7 => ?_) (fun h7 => ?_)
    · refine Rg.step 15 F_Mo_in_14 rfl (fun _ => rfl) ?_
      exact Rg.ret0 F_Mo_in_15 rfl (by omega) rfl
    · refine Rg.step 11 F_Mo_in_10 rfl (fun _ => rfl) ?_
      refine Rg.step 15 F_Mo_in_11 rfl (fun _ => rfl) ?_
      exact Rg.ret1 F_Mo_in_15 rfl (by omega) rfl
theorem c_Mo_compares {d : Nat}  {how o : Int} (b0 : -2147483648 ≤ how ∧ how < 2147483648) (b1 : -2147483648 ≤ o ∧ o < 2147483648) : Cg true d m_Mo_compares [.int (iI how), .int (iI o)] mem (.inl (some (.int (bP (cmps how o))))) mem := by
  refine Cg.of (Nat.le_of_ble_eq_true rfl) ?_
  change Rg _ _ _ _ 0 [(0, .int (iI how)), (1, .int (iI o))] [] _ _ _
  refine Rg.step 1 F_Mo_compares_0 rfl (fun _ => rfl) ?_
  refine Rg.ifneI 16 4 F_Mo_compares_1 rfl rfl (by omega) (fun h1 => ?_) (fun h1 => ?_)
  · refine Rg.step 17 F_Mo_compares_16 rfl (fun _ => rfl) ?_
    refine Rg.step 18 F_Mo_compares_17 rfl (fun _ => rfl) ?_
    refine Rg.icneI 33 21 F_Mo_compares_18 rfl rfl (by omega) (by omega) (fun h18 => ?_) (fun h18 => ?_)
    · refine Rg.step 34 F_Mo_compares_33 rfl (fun _ => rfl) ?_
      refine Rg.step 35 F_Mo_compares_34 rfl (fun _ => rfl) ?_
      refine Rg.icneI 50 38 F_Mo_compares_35 rfl rfl (by omega) (by omega) (fun h35 => ?_) (fun h35 => ?_)
      · refine Rg.step 51 F_Mo_compares_50 rfl (fun _ => rfl) ?_
        refine Rg.step 52 F_Mo_compares_51 rfl (fun _ => rfl) ?_
        refine Rg.icneI 67 55 F_Mo_compares_52 rfl rfl (by omega) (by omega) (fun h52 => ?_) (fun h52 => ?_)
        · refine Rg.step 68 F_Mo_compares_67 rfl (fun _ => rfl) ?_
          refine Rg.ifleI 75 71 F_Mo_compares_68 rfl rfl (by omega) (fun h68 => ?_) (fun h68 => ?_)
          · refine Rg.step 76 F_Mo_compares_75 rfl (fun _ => rfl) ?_
            exact Rg.ret0 F_Mo_compares_76 rfl (by unfold cmps; omega) rfl
          · refine Rg.step 72 F_Mo_compares_71 rfl (fun _ => rfl) ?_
            refine Rg.step 76 F_Mo_compares_72 rfl (fun _ => rfl) ?_
            exact Rg.ret1 F_Mo_compares_76 rfl (by unfold cmps; omega) rfl
        · refine Rg.step 56 F_Mo_compares_55 rfl (fun _ => rfl) ?_
          refine Rg.ifltI 63 59 F_Mo_compares_56 rfl rfl (by omega) (fun h56 => ?_) (fun h56 => ?_)
          · refine Rg.step 64 F_Mo_compares_63 rfl (fun _ => rfl) ?_
            refine Rg.step 76 F_Mo_compares_64 rfl (fun _ => rfl) ?_
            exact Rg.ret0 F_Mo_compares_76 rfl (by unfold cmps; omega) rfl
          · refine Rg.step 60 F_Mo_compares_59 rfl (fun _ => rfl) ?_
            refine Rg.step 76 F_Mo_compares_60 rfl (fun _ => rfl) ?_
            exact Rg.ret1 F_Mo_compares_76 rfl (by unfold cmps; omega) rfl
      · refine Rg.step 39 F_Mo_compares_38 rfl (fun _ => rfl) ?_
        refine Rg.ifneI 46 42 F_Mo_compares_39 rfl rfl (by omega) (fun h39 => ?_) (fun h39 => ?_)
        · refine Rg.step 47 F_Mo_compares_46 rfl (fun _ => rfl) ?_
          refine Rg.step 76 F_Mo_compares_47 rfl (fun _ => rfl) ?_
          exact Rg.ret0 F_Mo_compares_76 rfl (by unfold cmps; omega) rfl
        · refine Rg.step 43 F_Mo_compares_42 rfl (fun _ => rfl) ?_
          refine Rg.step 76 F_Mo_compares_43 rfl (fun _ => rfl) ?_
          exact Rg.ret1 F_Mo_compares_76 rfl (by unfold cmps; omega) rfl
    · refine Rg.step 22 F_Mo_compares_21 rfl (fun _ => rfl) ?_
      refine Rg.ifgtI 29 25 F_Mo_compares_22 rfl rfl (by omega) (fun h22 => ?_) (fun h22 => ?_)
      · refine Rg.step 30 F_Mo_compares_29 rfl (fun _ => rfl) ?_
        refine Rg.step 76 F_Mo_compares_30 rfl (fun _ => rfl) ?_
        exact Rg.ret0 F_Mo_compares_76 rfl (by unfold cmps; omega) rfl
      · refine Rg.step 26 F_Mo_compares_25 rfl (fun _ => rfl) ?_
        refine Rg.step 76 F_Mo_compares_26 rfl (fun _ => rfl) ?_
        exact Rg.ret1 F_Mo_compares_76 rfl (by unfold cmps; omega) rfl
  · refine Rg.step 5 F_Mo_compares_4 rfl (fun _ => rfl) ?_
    refine Rg.ifgeI 12 8 F_Mo_compares_5 rfl rfl (by omega) (fun h5 => ?_) (fun h5 => ?_)
    · refine Rg.step 13 F_Mo_compares_12 rfl (fun _ => rfl) ?_
      refine Rg.step 76 F_Mo_compares_13 rfl (fun _ => rfl) ?_
      exact Rg.ret0 F_Mo_compares_76 rfl (by unfold cmps; omega) rfl
    · refine Rg.step 9 F_Mo_compares_8 rfl (fun _ => rfl) ?_
      refine Rg.step 76 F_Mo_compares_9 rfl (fun _ => rfl) ?_
      exact Rg.ret1 F_Mo_compares_76 rfl (by unfold cmps; omega) rfl
theorem c_Mo_size {d : Nat}  {v : Int} (b0 : -4611686018427387904 < v ∧ v < 4611686018427387904) : Cg true d m_Mo_size [.long (lI v)] mem (.inl (some (.long (lI v.natAbs)))) mem := by
  refine Cg.of (Nat.le_of_ble_eq_true rfl) ?_
  change Rg _ _ _ _ 0 [(0, .long (lI v))] [] _ _ _
  refine Rg.step 1 F_Mo_size_0 rfl (fun _ => rfl) ?_
  refine Rg.lcn (n := 0) 2 F_Mo_size_1 rfl rfl ?_
  refine Rg.lcge 11 6 F_Mo_size_2 F_Mo_size_3 rfl rfl (by omega) (by omega) (fun h2 => ?_) (fun h2 => ?_)
  · refine Rg.step 12 F_Mo_size_11 rfl (fun _ => rfl) ?_
    exact Rg.retL F_Mo_size_12 rfl (by omega) rfl
  · refine Rg.step 7 F_Mo_size_6 rfl (fun _ => rfl) ?_
    refine Rg.negL 8 F_Mo_size_7 rfl ?_
    refine Rg.step 12 F_Mo_size_8 rfl (fun _ => rfl) ?_
    exact Rg.retL F_Mo_size_12 rfl (by omega) rfl
theorem common_loop {d n0 : Nat} : ∀ (N : Nat) (x y : Int), y < N → 0 ≤ x ∧ x < 4611686018427387904 → 0 ≤ y ∧ y < 4611686018427387904 → Rg true (d + 1) m_Mo_common n0 12 [(6, .long (lI y)), (4, .long (lI x))] [] mem (.inl (some (.long (lI (Int.gcd x y))))) mem := by
  intro N
  induction N with
  | zero => intro x y h hx hy; omega
  | succ N ih =>
    intro x y h hx hy
    refine Rg.step 14 F_Mo_common_12 rfl (fun _ => rfl) ?_
    refine Rg.lcn (n := 0) 15 F_Mo_common_14 rfl rfl ?_
    refine Rg.lcle 37 19 F_Mo_common_15 F_Mo_common_16 rfl rfl (by omega) (by omega) (fun h15 => ?_) (fun h15 => ?_)
    · refine Rg.step 39 F_Mo_common_37 rfl (fun _ => rfl) ?_
      have hy0 : y = 0 := by omega
      subst hy0
      exact Rg.retL F_Mo_common_39 rfl (by rw [Int.gcd_zero_right]; omega) rfl
    · refine Rg.step 21 F_Mo_common_19 rfl (fun _ => rfl) ?_
      refine Rg.step 23 F_Mo_common_21 rfl (fun _ => rfl) ?_
      refine Rg.remLp 24 F_Mo_common_23 rfl (by omega) (by omega) ?_
      refine Rg.step 26 F_Mo_common_24 rfl (fun _ => rfl) ?_
      refine Rg.step 28 F_Mo_common_26 rfl (fun _ => rfl) ?_
      refine Rg.step 30 F_Mo_common_28 rfl (fun _ => rfl) ?_
      refine Rg.step 32 F_Mo_common_30 rfl (fun _ => rfl) ?_
      refine Rg.step 34 F_Mo_common_32 rfl (fun _ => rfl) ?_
      refine Rg.step 12 F_Mo_common_34 rfl (fun _ => rfl) ?_
      have hm := Int.emod_lt_of_pos x (show 0 < y by omega)
      have hm0 := Int.emod_nonneg x (show ¬ y = 0 by omega)
      rw [← gcd_step hx.1 (show 0 < y by omega)]
      exact Rg.weak (ih y (x % y) (by omega) (by omega) (by omega)) (by simp [lput1, lput2, Value.category, fi0, fi1, fi2, fi3] <;> first | rfl | exact ⟨rfl, rfl⟩) (by simp [lput1, lput2, Value.category, fi0, fi1, fi2, fi3] <;> first | rfl | exact ⟨rfl, rfl⟩)
theorem c_Mo_common {d : Nat}  {a b : Int} (b0 : -4611686018427387904 < a ∧ a < 4611686018427387904) (b1 : -4611686018427387904 < b ∧ b < 4611686018427387904) : Cg true (d + 1) m_Mo_common [.long (lI a), .long (lI b)] mem (.inl (some (.long (lI (Int.gcd a b))))) mem := by
  refine Cg.of (Nat.le_of_ble_eq_true rfl) ?_
  change Rg _ _ _ _ 0 [(0, .long (lI a)), (2, .long (lI b))] [] _ _ _
  refine Rg.step 1 F_Mo_common_0 rfl (fun _ => rfl) ?_
  refine Rg.call 4 F_Mo_common_1 rfl (one_S (by decide +kernel) rM_26_181 (by decide) (by simp) rfl rfl) (Nat.le_of_ble_eq_true rfl) (c_Mo_size (by omega)) ?_
  refine Rg.step 6 F_Mo_common_4 rfl (fun _ => rfl) ?_
  refine Rg.step 7 F_Mo_common_6 rfl (fun _ => rfl) ?_
  refine Rg.call 10 F_Mo_common_7 rfl (one_S (by decide +kernel) rM_26_181 (by decide) (by simp) rfl rfl) (Nat.le_of_ble_eq_true rfl) (c_Mo_size (by omega)) ?_
  refine Rg.step 12 F_Mo_common_10 rfl (fun _ => rfl) ?_
  have e1 : Int.gcd a b = Int.gcd (a.natAbs : Int) (b.natAbs : Int) := by simp [Int.gcd]
  rw [e1]
  exact Rg.weak (common_loop (b.natAbs + 1) _ _ (by omega) (by omega) (by omega)) (by simp [lput1, lput2, Value.category, fi0, fi1, fi2, fi3] <;> first | rfl | exact ⟨rfl, rfl⟩) (by simp [lput1, lput2, Value.category, fi0, fi1, fi2, fi3] <;> first | rfl | exact ⟨rfl, rfl⟩)
theorem gcd_pos' {n q : Int} (hq : 0 < q) : 0 < (Int.gcd n q : Int) := by
  have : 0 < Int.gcd n q := Int.gcd_pos_of_ne_zero_right _ (by omega)
  omega
theorem gcd_le' {n q : Int} (hq : 0 < q) : (Int.gcd n q : Int) ≤ q := Int.le_of_dvd hq (Int.gcd_dvd_right _ _)
theorem c_Mo_out {d : Nat}  (hp : pre.length = 168) {n q : Int} (b0 : -4611686018427387904 < n ∧ n < 4611686018427387904) (b1 : -4611686018427387904 < q ∧ q < 4611686018427387904) (hq : 0 < q) : Cg false (d + 2) m_Mo_out [.ref 168, .long (lI n), .long (lI q)] (MR pre code amountN amountD momentN momentD epsilonN epsilonD firstFacts firstN firstD wishes wants wantN wantD actions needs needTime needOf needHow needN needD changes changeTime changeOf changeHow changeN changeD lastOf lastN lastD steps stepAction startN startD lengthN lengthD rows row tried triedAction triedRows triedRow times unit facts numN numD oldFacts oldN oldD point judged fault faultPoint toldFacts toldN toldD outN outD pointN pointD gone now leastN leastD greatestN greatestD events post) (.inl none) (MR pre code amountN amountD momentN momentD epsilonN epsilonD firstFacts firstN firstD wishes wants wantN wantD actions needs needTime needOf needHow needN needD changes changeTime changeOf changeHow changeN changeD lastOf lastN lastD steps stepAction startN startD lengthN lengthD rows row tried triedAction triedRows triedRow times unit facts numN numD oldFacts oldN oldD point judged fault faultPoint toldFacts toldN toldD (nN n q) (nD n q) pointN pointD gone now leastN leastD greatestN greatestD events post) := by
  have g1 := gcd_pos' (n := n) hq
  have g2 := gcd_le' (n := n) hq
  have e1 : n.tdiv (Int.gcd n q) = nN n q := tdiv_gcd (Int.gcd_dvd_left _ _)
  have e2 : q.tdiv (Int.gcd n q) = nD n q := tdiv_gcd (Int.gcd_dvd_right _ _)
  refine Cg.of (Nat.le_of_ble_eq_true rfl) ?_
  change Rg _ _ _ _ 0 [(0, .ref 168), (1, .long (lI n)), (3, .long (lI q))] [] _ _ _
  refine Rg.step 1 F_Mo_out_0 rfl (fun _ => rfl) ?_
  refine Rg.step 2 F_Mo_out_1 rfl (fun _ => rfl) ?_
  refine Rg.call 5 F_Mo_out_2 rfl (one_S (by decide +kernel) rM_26_185 (by decide) (by simp) rfl rfl) (Nat.le_of_ble_eq_true rfl) (Cg.any (c_Mo_common (by omega) (by omega))) ?_
  refine Rg.step 7 F_Mo_out_5 rfl (fun _ => rfl) ?_
  refine Rg.step 8 F_Mo_out_7 rfl (fun _ => rfl) ?_
  refine Rg.step 9 F_Mo_out_8 rfl (fun _ => rfl) ?_
  refine Rg.step 11 F_Mo_out_9 rfl (fun _ => rfl) ?_
  refine Rg.divLt 12 F_Mo_out_11 rfl (by omega) (by omega) (by omega) ?_
  rw [e1]
  refine Rg.put 15 F_Mo_out_12 rfl rF_26_189 (gM hp) (by decide) (Nat.le_of_ble_eq_true rfl) (Or.inl rfl) rfl (sM_outN hp) ?_
  refine Rg.step 16 F_Mo_out_15 rfl (fun _ => rfl) ?_
  refine Rg.step 17 F_Mo_out_16 rfl (fun _ => rfl) ?_
  refine Rg.step 19 F_Mo_out_17 rfl (fun _ => rfl) ?_
  refine Rg.divLt 20 F_Mo_out_19 rfl (by omega) (by omega) (by omega) ?_
  rw [e2]
  refine Rg.put 23 F_Mo_out_20 rfl rF_26_192 (gM hp) (by decide) (Nat.le_of_ble_eq_true rfl) (Or.inl rfl) rfl (sM_outD hp) ?_
  exact Rg.retV F_Mo_out_23 rfl rfl
theorem c_Mo_floor {d : Nat}  {n q : Int} (b0 : -4611686018427387904 < n ∧ n < 4611686018427387904) (b1 : -4611686018427387904 < q ∧ q < 4611686018427387904) (hq : 0 < q) : Cg true d m_Mo_floor [.long (lI n), .long (lI q)] mem (.inl (some (.long (lI (n / q))))) mem := by
  have f1 := fl_eq (n := n) hq
  have t1 := Int.lt_tmod_of_pos n hq
  have t2 := Int.tmod_lt_of_pos n hq
  refine Cg.of (Nat.le_of_ble_eq_true rfl) ?_
  change Rg _ _ _ _ 0 [(0, .long (lI n)), (2, .long (lI q))] [] _ _ _
  refine Rg.step 1 F_Mo_floor_0 rfl (fun _ => rfl) ?_
  refine Rg.step 2 F_Mo_floor_1 rfl (fun _ => rfl) ?_
  refine Rg.divLt 3 F_Mo_floor_2 rfl (by omega) (by omega) (by omega) ?_
  refine Rg.step 5 F_Mo_floor_3 rfl (fun _ => rfl) ?_
  refine Rg.step 6 F_Mo_floor_5 rfl (fun _ => rfl) ?_
  refine Rg.step 7 F_Mo_floor_6 rfl (fun _ => rfl) ?_
  refine Rg.remLt 8 F_Mo_floor_7 rfl (by omega) (by omega) (by omega) ?_
  refine Rg.lcn (n := 0) 9 F_Mo_floor_8 rfl rfl ?_
  refine Rg.lcge 20 13 F_Mo_floor_9 F_Mo_floor_10 rfl rfl (by omega) (by omega) (fun h9 => ?_) (fun h9 => ?_)
  · refine Rg.step 22 F_Mo_floor_20 rfl (fun _ => rfl) ?_
    exact Rg.retL F_Mo_floor_22 rfl (by rw [← f1, if_neg (by omega)]) rfl
  · refine Rg.step 15 F_Mo_floor_13 rfl (fun _ => rfl) ?_
    refine Rg.lcn (n := 1) 16 F_Mo_floor_15 rfl rfl ?_
    refine Rg.subL 17 F_Mo_floor_16 rfl ?_
    refine Rg.step 22 F_Mo_floor_17 rfl (fun _ => rfl) ?_
    exact Rg.retL F_Mo_floor_22 rfl (by rw [← f1, if_pos (by omega)]) rfl
theorem order_loop {d n0 : Nat} : ∀ (N : Nat) (a b c f : Int), b + f < N → 0 < b ∧ b < 4611686018427387904 → 0 < f ∧ f < 4611686018427387904 → -4611686018427387904 < a ∧ a < 4611686018427387904 → -4611686018427387904 < c ∧ c < 4611686018427387904 → Rg true (d + 1) m_Mo_order n0 14 [(8, .long (lI a)), (10, .long (lI b)), (12, .long (lI c)), (14, .long (lI f))] [] mem (.inl (some (.int (iI (cmpF a b c f))))) mem := by
  intro N
  induction N with
  | zero => intro a b c f h hb hf ha hc; omega
  | succ N ih =>
    intro a b c f h hb hf ha hc
    have p1 := Int.emod_nonneg a (show ¬ b = 0 by omega)
    have p2 := Int.emod_lt_of_pos a hb.1
    have p3 := Int.emod_nonneg c (show ¬ f = 0 by omega)
    have p4 := Int.emod_lt_of_pos c hf.1
    have q1 : a - a / b * b = a % b := by rw [Int.emod_def, Int.mul_comm]
    have q2 : c - c / f * f = c % f := by rw [Int.emod_def, Int.mul_comm]
    have r1 := ediv_bd (n := a) hb.1
    have r2 := ediv_bd (n := c) hf.1
    refine Rg.step 16 F_Mo_order_14 rfl (fun _ => rfl) ?_
    refine Rg.step 18 F_Mo_order_16 rfl (fun _ => rfl) ?_
    refine Rg.call 21 F_Mo_order_18 rfl (one_S (by decide +kernel) rM_26_195 (by decide) (by simp) rfl rfl) (Nat.le_of_ble_eq_true rfl) (c_Mo_floor (by omega) (by omega) (by omega)) ?_
    refine Rg.step 23 F_Mo_order_21 rfl (fun _ => rfl) ?_
    refine Rg.step 25 F_Mo_order_23 rfl (fun _ => rfl) ?_
    refine Rg.step 27 F_Mo_order_25 rfl (fun _ => rfl) ?_
    refine Rg.call 30 F_Mo_order_27 rfl (one_S (by decide +kernel) rM_26_195 (by decide) (by simp) rfl rfl) (Nat.le_of_ble_eq_true rfl) (c_Mo_floor (by omega) (by omega) (by omega)) ?_
    refine Rg.step 32 F_Mo_order_30 rfl (fun _ => rfl) ?_
    refine Rg.step 34 F_Mo_order_32 rfl (fun _ => rfl) ?_
    refine Rg.step 36 F_Mo_order_34 rfl (fun _ => rfl) ?_
    refine Rg.lceq 54 40 F_Mo_order_36 F_Mo_order_37 rfl rfl (by omega) (by omega) (fun h36 => ?_) (fun h36 => ?_)
    · refine Rg.step 56 F_Mo_order_54 rfl (fun _ => rfl) ?_
      refine Rg.step 58 F_Mo_order_56 rfl (fun _ => rfl) ?_
      refine Rg.step 60 F_Mo_order_58 rfl (fun _ => rfl) ?_
      refine Rg.mulL 61 F_Mo_order_60 rfl ?_
      refine Rg.subL 62 F_Mo_order_61 rfl ?_
      rw [q1]
      refine Rg.step 64 F_Mo_order_62 rfl (fun _ => rfl) ?_
      refine Rg.step 66 F_Mo_order_64 rfl (fun _ => rfl) ?_
      refine Rg.step 68 F_Mo_order_66 rfl (fun _ => rfl) ?_
      refine Rg.step 70 F_Mo_order_68 rfl (fun _ => rfl) ?_
      refine Rg.mulL 71 F_Mo_order_70 rfl ?_
      refine Rg.subL 72 F_Mo_order_71 rfl ?_
      rw [q2]
      refine Rg.step 74 F_Mo_order_72 rfl (fun _ => rfl) ?_
      refine Rg.step 76 F_Mo_order_74 rfl (fun _ => rfl) ?_
      refine Rg.lcn (n := 0) 77 F_Mo_order_76 rfl rfl ?_
      refine Rg.lceq 88 81 F_Mo_order_77 F_Mo_order_78 rfl rfl (by omega) (by omega) (fun h77 => ?_) (fun h77 => ?_)
      · refine Rg.step 90 F_Mo_order_88 rfl (fun _ => rfl) ?_
        refine Rg.step 92 F_Mo_order_90 rfl (fun _ => rfl) ?_
        refine Rg.lcne 100 96 F_Mo_order_92 F_Mo_order_93 rfl rfl (by omega) (by omega) (fun h92 => ?_) (fun h92 => ?_)
        · refine Rg.step 102 F_Mo_order_100 rfl (fun _ => rfl) ?_
          refine Rg.lcn (n := 0) 103 F_Mo_order_102 rfl rfl ?_
          refine Rg.lcne 111 107 F_Mo_order_103 F_Mo_order_104 rfl rfl (by omega) (by omega) (fun h103 => ?_) (fun h103 => ?_)
          · refine Rg.step 112 F_Mo_order_111 rfl (fun _ => rfl) ?_
            exact Rg.retI F_Mo_order_112 rfl (by rw [cmpF_sub (p := a / b), show c - a / b * f = c % f by rw [h36, q2], q1, cmpF_zero hb.1 hf.1 p1 p3 (Or.inl h77), if_neg h92, if_neg h103]) rfl
          · refine Rg.step 108 F_Mo_order_107 rfl (fun _ => rfl) ?_
            refine Rg.step 112 F_Mo_order_108 rfl (fun _ => rfl) ?_
            exact Rg.retI F_Mo_order_112 rfl (by rw [cmpF_sub (p := a / b), show c - a / b * f = c % f by rw [h36, q2], q1, cmpF_zero hb.1 hf.1 p1 p3 (Or.inl h77), if_neg h92, if_pos h103]) rfl
        · refine Rg.step 97 F_Mo_order_96 rfl (fun _ => rfl) ?_
          refine Rg.step 112 F_Mo_order_97 rfl (fun _ => rfl) ?_
          exact Rg.retI F_Mo_order_112 rfl (by rw [cmpF_sub (p := a / b), show c - a / b * f = c % f by rw [h36, q2], q1, cmpF_zero hb.1 hf.1 p1 p3 (Or.inl h77), if_pos h92]) rfl
      · refine Rg.step 83 F_Mo_order_81 rfl (fun _ => rfl) ?_
        refine Rg.lcn (n := 0) 84 F_Mo_order_83 rfl rfl ?_
        refine Rg.lcne 113 88 F_Mo_order_84 F_Mo_order_85 rfl rfl (by omega) (by omega) (fun h84 => ?_) (fun h84 => ?_)
        · refine Rg.step 115 F_Mo_order_113 rfl (fun _ => rfl) ?_
          refine Rg.step 117 F_Mo_order_115 rfl (fun _ => rfl) ?_
          refine Rg.step 119 F_Mo_order_117 rfl (fun _ => rfl) ?_
          refine Rg.step 121 F_Mo_order_119 rfl (fun _ => rfl) ?_
          refine Rg.step 123 F_Mo_order_121 rfl (fun _ => rfl) ?_
          refine Rg.step 125 F_Mo_order_123 rfl (fun _ => rfl) ?_
          refine Rg.step 127 F_Mo_order_125 rfl (fun _ => rfl) ?_
          refine Rg.step 129 F_Mo_order_127 rfl (fun _ => rfl) ?_
          refine Rg.step 14 F_Mo_order_129 rfl (fun _ => rfl) ?_
          rw [cmpF_sub (p := a / b), show c - a / b * f = c % f by rw [h36, q2], q1, cmpF_turn]
          exact Rg.weak (ih f (c % f) b (a % b) (by omega) (by omega) (by omega) (by omega) (by omega)) (by simp [lput1, lput2, Value.category, fi0, fi1, fi2, fi3] <;> first | rfl | exact ⟨rfl, rfl⟩) (by simp [lput1, lput2, Value.category, fi0, fi1, fi2, fi3] <;> first | rfl | exact ⟨rfl, rfl⟩)
        · refine Rg.step 90 F_Mo_order_88 rfl (fun _ => rfl) ?_
          refine Rg.step 92 F_Mo_order_90 rfl (fun _ => rfl) ?_
          refine Rg.lcne 100 96 F_Mo_order_92 F_Mo_order_93 rfl rfl (by omega) (by omega) (fun h92 => ?_) (fun h92 => ?_)
          · refine Rg.step 102 F_Mo_order_100 rfl (fun _ => rfl) ?_
            refine Rg.lcn (n := 0) 103 F_Mo_order_102 rfl rfl ?_
            refine Rg.lcne 111 107 F_Mo_order_103 F_Mo_order_104 rfl rfl (by omega) (by omega) (fun h103 => ?_) (fun h103 => ?_)
            · refine Rg.step 112 F_Mo_order_111 rfl (fun _ => rfl) ?_
              exact Rg.retI F_Mo_order_112 rfl (by rw [cmpF_sub (p := a / b), show c - a / b * f = c % f by rw [h36, q2], q1, cmpF_zero hb.1 hf.1 p1 p3 (Or.inr h84), if_neg h92, if_neg h103]) rfl
            · refine Rg.step 108 F_Mo_order_107 rfl (fun _ => rfl) ?_
              refine Rg.step 112 F_Mo_order_108 rfl (fun _ => rfl) ?_
              exact Rg.retI F_Mo_order_112 rfl (by rw [cmpF_sub (p := a / b), show c - a / b * f = c % f by rw [h36, q2], q1, cmpF_zero hb.1 hf.1 p1 p3 (Or.inr h84), if_neg h92, if_pos h103]) rfl
          · refine Rg.step 97 F_Mo_order_96 rfl (fun _ => rfl) ?_
            refine Rg.step 112 F_Mo_order_97 rfl (fun _ => rfl) ?_
            exact Rg.retI F_Mo_order_112 rfl (by rw [cmpF_sub (p := a / b), show c - a / b * f = c % f by rw [h36, q2], q1, cmpF_zero hb.1 hf.1 p1 p3 (Or.inr h84), if_pos h92]) rfl
    · refine Rg.step 42 F_Mo_order_40 rfl (fun _ => rfl) ?_
      refine Rg.step 44 F_Mo_order_42 rfl (fun _ => rfl) ?_
      refine Rg.lcge 52 48 F_Mo_order_44 F_Mo_order_45 rfl rfl (by omega) (by omega) (fun h44 => ?_) (fun h44 => ?_)
      · refine Rg.step 53 F_Mo_order_52 rfl (fun _ => rfl) ?_
        exact Rg.retI F_Mo_order_53 rfl (cmpF_gt hb.1 hf.1 (by omega)).symm rfl
      · refine Rg.step 49 F_Mo_order_48 rfl (fun _ => rfl) ?_
        refine Rg.step 53 F_Mo_order_49 rfl (fun _ => rfl) ?_
        exact Rg.retI F_Mo_order_53 rfl (cmpF_lt hb.1 hf.1 (by omega)).symm rfl
theorem c_Mo_order {d : Nat}  {n dn m em : Int} (b0 : -4611686018427387904 < n ∧ n < 4611686018427387904) (b1 : -4611686018427387904 < dn ∧ dn < 4611686018427387904) (b2 : -4611686018427387904 < m ∧ m < 4611686018427387904) (b3 : -4611686018427387904 < em ∧ em < 4611686018427387904) (h1 : 0 < dn) (h2 : 0 < em) : Cg true (d + 1) m_Mo_order [.long (lI n), .long (lI dn), .long (lI m), .long (lI em)] mem (.inl (some (.int (iI (cmpF n dn m em))))) mem := by
  refine Cg.of (Nat.le_of_ble_eq_true rfl) ?_
  change Rg _ _ _ _ 0 [(0, .long (lI n)), (2, .long (lI dn)), (4, .long (lI m)), (6, .long (lI em))] [] _ _ _
  refine Rg.step 1 F_Mo_order_0 rfl (fun _ => rfl) ?_
  refine Rg.step 3 F_Mo_order_1 rfl (fun _ => rfl) ?_
  refine Rg.step 4 F_Mo_order_3 rfl (fun _ => rfl) ?_
  refine Rg.step 6 F_Mo_order_4 rfl (fun _ => rfl) ?_
  refine Rg.step 8 F_Mo_order_6 rfl (fun _ => rfl) ?_
  refine Rg.step 10 F_Mo_order_8 rfl (fun _ => rfl) ?_
  refine Rg.step 12 F_Mo_order_10 rfl (fun _ => rfl) ?_
  refine Rg.step 14 F_Mo_order_12 rfl (fun _ => rfl) ?_
  exact Rg.weak (order_loop (dn + em + 1).toNat n dn m em (by omega) (by omega) (by omega) (by omega) (by omega)) (by simp [lput1, lput2, Value.category, fi0, fi1, fi2, fi3] <;> first | rfl | exact ⟨rfl, rfl⟩) (by simp [lput1, lput2, Value.category, fi0, fi1, fi2, fi3] <;> first | rfl | exact ⟨rfl, rfl⟩)
end R42
