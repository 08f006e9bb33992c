/-! Euclid's way in 200 rounds, as whole numbers. -/
def eu : Nat → Int → Int → Int
  | 0, a, _ => a
  | n + 1, a, b => if b = 0 then a else eu n b (a % b)
def T1 (n : Nat) (b : Int) : Prop := ∃ j : Nat, b < 2 ^ j ∧ 2 * j ≤ n
def T2 (n : Nat) (a b : Int) : Prop := b < a ∧ ∃ j : Nat, a < 2 ^ j ∧ 2 * j ≤ n + 1
theorem mod_half {a b : Int} (hb : 0 < b) (h : b < a) : 2 * (a % b) < a := by
  have h1 := Int.emod_lt_of_pos a hb
  have h2 := Int.emod_nonneg a (Int.ne_of_gt hb)
  have h3 := Int.mul_ediv_add_emod a b
  have h4 : 1 ≤ a / b := (Int.le_ediv_iff_mul_le hb).mpr (by omega)
  have h5 : b * 1 ≤ b * (a / b) := Int.mul_le_mul_of_nonneg_left h4 (by omega)
  omega
theorem T1.next {n : Nat} {a b : Int} (h : T1 (n + 1) b) (hb : 0 < b) : T2 n b (a % b) := by
  obtain ⟨j, h1, h2⟩ := h
  exact ⟨Int.emod_lt_of_pos a hb, j, h1, h2⟩
theorem T2.next {n : Nat} {a b : Int} (h : T2 (n + 1) a b) (hb : 0 < b) : T1 n (a % b) := by
  obtain ⟨h0, j, h1, h2⟩ := h
  have h3 := mod_half hb h0
  cases j with
  | zero => simp at h1; omega
  | succ j =>
    refine ⟨j, ?_, by omega⟩
    rw [Int.pow_succ] at h1
    omega
theorem T1.zero {b : Int} (h : T1 0 b) : b ≤ 0 := by
  obtain ⟨j, h1, h2⟩ := h
  have : j = 0 := by omega
  subst this
  simp at h1
  omega
theorem T2.zero {a b : Int} (h : T2 0 a b) : b < 0 := by
  obtain ⟨h0, j, h1, h2⟩ := h
  have : j = 0 := by omega
  subst this
  simp at h1
  omega
theorem gcd_mod (a b : Int) : Int.gcd b (a % b) = Int.gcd a b := by
  rw [Int.gcd_comm b, Int.emod_def, Int.gcd_comm]
  have := Int.gcd_sub_mul_left_right (m := b) (n := a) (k := a / b)
  first
    | rw [this, Int.gcd_comm]
    | (rw [Int.mul_comm] at this; rw [Int.mul_comm, this, Int.gcd_comm])
theorem eu_gcd : ∀ (n : Nat) (a b : Int), 0 ≤ a → 0 ≤ b → T1 n b ∨ T2 n a b → eu n a b = (Int.gcd a b : Int) := by
  intro n
  induction n with
  | zero =>
    intro a b ha hb h
    have hb0 : b = 0 := by
      rcases h with h | h
      · have := h.zero; omega
      · have := h.zero; omega
    subst hb0
    rw [eu, Int.gcd_zero]
    omega
  | succ n ih =>
    intro a b ha hb h
    rw [eu]
    by_cases h0 : b = 0
    · rw [if_pos h0, h0, Int.gcd_zero]
      omega
    · rw [if_neg h0, ih b (a % b) hb (Int.emod_nonneg a h0) ?_, gcd_mod]
      rcases h with h | h
      · exact Or.inr (h.next (by omega))
      · exact Or.inl (h.next (by omega))
theorem T1_200 {b : Int} (h : b < 4611686018427387904) : T1 200 b := ⟨62, by simpa using h, by omega⟩
theorem lI_mul (a b : Int) : lI a * lI b = lI (a * b) := (Int64.ofInt_mul _ _).symm
theorem lI_sub (a b : Int) : lI a - lI b = lI (a - b) := (Int64.ofInt_sub _ _).symm
theorem lI_neg (a : Int) : - lI a = lI (-a) := (Int64.ofInt_neg _).symm
theorem lI_0 : (0 : Int64) = lI 0 := rfl
theorem lI_1 : (1 : Int64) = lI 1 := rfl
theorem euC_eu : ∀ (n : Nat) (a b : Int), 0 ≤ a ∧ a < 4611686018427387904 → 0 ≤ b ∧ b < 4611686018427387904 → euC n (lI a) (lI b) = lI (eu n a b) := by
  intro n
  induction n with
  | zero => intro a b _ _; rfl
  | succ n ih =>
    intro a b ha hb
    rw [euC, eu, lI_0]
    by_cases h0 : b = 0
    · rw [if_pos h0, if_pos (by rw [h0])]
    · rw [if_neg h0, if_neg (fun z => h0 ((lI_eq (by omega) (by omega)).mp z)), lI_tdiv (by omega) (by omega), lI_mul, lI_sub]
      have h1 : a - a.tdiv b * b = a % b := by
        rw [Int.tdiv_eq_ediv_of_nonneg ha.1, Int.emod_def, Int.mul_comm]
      have h2 := Int.emod_lt_of_pos a (show 0 < b by omega)
      have h3 := Int.emod_nonneg a h0
      rw [h1]
      exact ih b (a % b) (by omega) (by omega)
theorem absL_lI {p : Int} (h : -4611686018427387904 < p ∧ p < 4611686018427387904) : absL (lI p) = lI (p.natAbs : Int) := by
  unfold absL
  rw [lI_0]
  by_cases h0 : p < 0
  · rw [if_pos ((lI_lt (by omega) (by omega)).mpr h0), lI_neg]
    exact congrArg lI (by omega)
  · rw [if_neg (fun z => h0 ((lI_lt (by omega) (by omega)).mp z))]
    exact congrArg lI (by omega)
theorem gC_lI {p q : Int} (hp : -4611686018427387904 < p ∧ p < 4611686018427387904) (hq : 0 < q ∧ q < 4611686018427387904) : gC (lI p) (lI q) = lI (Int.gcd p q : Int) := by
  unfold gC
  rw [absL_lI hp, euC_eu 200 q (p.natAbs : Int) (by omega) (by omega), eu_gcd 200 q (p.natAbs : Int) (by omega) (by omega) (Or.inl (T1_200 (by omega)))]
  refine congrArg (fun n : Nat => lI (n : Int)) ?_
  rw [Int.gcd_comm]
  simp [Int.gcd]
theorem dvC_lI {g p : Int} (hg : 0 < g ∧ g < 4611686018427387904) (hp : -4611686018427387904 < p ∧ p < 4611686018427387904) (hd : g ∣ p) : dvC (lI g) (lI p) = lI (p / g) := by
  unfold dvC
  rw [lI_1]
  by_cases h1 : 1 < g
  · rw [if_pos ((lI_lt (by omega) (by omega)).mpr h1), lI_tdiv (by omega) (by omega), Int.tdiv_eq_ediv_of_dvd hd]
  · rw [if_neg (fun z => h1 ((lI_lt (by omega) (by omega)).mp z))]
    have : g = 1 := by omega
    rw [this, Int.ediv_one]
theorem gcd_b {p q : Int} (hq : 0 < q) : 0 < (Int.gcd p q : Int) ∧ (Int.gcd p q : Int) ≤ q := ⟨gcd_pos' hq, Int.le_of_dvd hq (Int.gcd_dvd_right _ _)⟩
theorem put_N {p q : Int} (hp : -4611686018427387904 < p ∧ p < 4611686018427387904) (hq : 0 < q ∧ q < 4611686018427387904) : dvC (gC (lI p) (lI q)) (lI p) = lI (nN p q) := by
  have := gcd_b (p := p) hq.1
  rw [gC_lI hp hq, dvC_lI (by omega) hp (Int.gcd_dvd_left _ _)]
  rfl
theorem put_D {p q : Int} (hp : -4611686018427387904 < p ∧ p < 4611686018427387904) (hq : 0 < q ∧ q < 4611686018427387904) : dvC (gC (lI p) (lI q)) (lI q) = lI (nD p q) := by
  have := gcd_b (p := p) hq.1
  rw [gC_lI hp hq, dvC_lI (by omega) (by omega) (Int.gcd_dvd_right _ _)]
  rfl
theorem xor_neg {a b : Int} (ha : -9223372036854775808 ≤ a ∧ a < 9223372036854775808) (hb : 0 ≤ b ∧ b < 9223372036854775808) : lI a ^^^ lI b < 0 ↔ a < 0 := by
  have h1 : ∀ x : Int64, x < 0 ↔ x.toBitVec.msb = true := fun x => by
    rw [Int64.lt_iff_toInt_lt, BitVec.msb_eq_toInt]
    show x.toBitVec.toInt < 0 ↔ _
    rw [decide_eq_true_eq]
  rw [h1, Int64.toBitVec_xor, BitVec.msb_xor]
  have h2 : (lI b).toBitVec.msb = false := by
    have := (h1 (lI b))
    cases h : (lI b).toBitVec.msb with
    | false => rfl
    | true =>
      have := this.mpr h
      rw [lI_0, lI_lt (by omega) (by omega)] at this
      omega
  rw [h2, Bool.xor_false, ← h1, lI_0, lI_lt (by omega) (by omega)]
theorem flC_lI {a b : Int} (ha : -4611686018427387904 < a ∧ a < 4611686018427387904) (hb : 0 < b ∧ b < 4611686018427387904) : flC (lI a) (lI b) = lI (a / b) := by
  have hb1 : 0 < b := hb.1
  have ht : -4611686018427387904 < a.tdiv b ∧ a.tdiv b < 4611686018427387904 := by
    by_cases h : 0 ≤ a
    · rw [Int.tdiv_eq_ediv_of_nonneg h]
      have := (ediv_bd (n := a) hb1).1 h
      omega
    · have e : a.tdiv b = -((-a) / b) := by
        rw [← Int.neg_neg a, Int.neg_tdiv, Int.neg_neg, Int.tdiv_eq_ediv_of_nonneg (by omega)]
      have := (ediv_bd (n := -a) hb1).1 (by omega)
      omega
  have hm : -9223372036854775808 ≤ a.tdiv b * b ∧ a.tdiv b * b < 9223372036854775808 := by
    have e := Int.mul_tdiv_add_tmod a b
    have h1 := Int.tmod_lt_of_pos a hb1
    have h2 : -b < a.tmod b := by
      by_cases h : 0 ≤ a
      · have := Int.tmod_nonneg b h; omega
      · have e2 : a.tmod b = -((-a).tmod b) := by rw [Int.neg_tmod]; omega
        have := Int.tmod_lt_of_pos (-a) hb1
        omega
    rw [Int.mul_comm] at e
    omega
  unfold flC
  rw [lI_tdiv (by omega) (by omega), lI_mul, lI_1, lI_sub]
  have x1 := xor_neg (a := a) (b := b) (by omega) (by omega)
  have x2 : lI (a.tdiv b * b) = lI a ↔ a.tdiv b * b = a := lI_eq hm (by omega)
  by_cases h : 0 ≤ a
  · rw [if_neg (fun z => by have := x1.mp z.1; omega), Int.tdiv_eq_ediv_of_nonneg h]
  · by_cases hd : a.tdiv b * b = a
    · rw [if_neg (fun z => z.2 (x2.mpr hd))]
      have hdv : b ∣ a := ⟨a.tdiv b, by rw [Int.mul_comm]; exact hd.symm⟩
      rw [Int.tdiv_eq_ediv_of_dvd hdv]
    · rw [if_pos ⟨x1.mpr (by omega), fun z => hd (x2.mp z)⟩]
      refine congrArg lI ?_
      have hdv : ¬ b ∣ a := fun z => hd (Int.tdiv_mul_cancel z)
      have e := Int.tdiv_eq_ediv (a := a) (b := b)
      rw [if_neg (fun z => z.elim (fun y => absurd y (by omega)) hdv)] at e
      have es : b.sign = 1 := Int.sign_eq_one_of_pos hb1
      omega
theorem iI_neg (s : Int) : - iI s = iI (-s) := (Int32.ofInt_neg _).symm
theorem orC_cmp : ∀ (n : Nat) (a b c e s : Int), -4611686018427387904 < a ∧ a < 4611686018427387904 → 0 < b ∧ b < 4611686018427387904 → -4611686018427387904 < c ∧ c < 4611686018427387904 → 0 < e ∧ e < 4611686018427387904 → T1 n b ∨ T2 n a b → orC n (lI a) (lI b) (lI c) (lI e) (iI s) = iI (s * cmpF a b c e) := by
  intro n
  induction n with
  | zero =>
    intro a b c e s ha hb hc he h
    rcases h with h | h
    · have := h.zero; omega
    · have := h.zero; omega
  | succ n ih =>
    intro a b c e s ha hb hc he h
    have d1 := ediv_bd (n := a) hb.1
    have d2 := ediv_bd (n := c) he.1
    have m1 := Int.emod_lt_of_pos a hb.1
    have m2 := Int.emod_nonneg a (Int.ne_of_gt hb.1)
    have m3 := Int.emod_lt_of_pos c he.1
    have m4 := Int.emod_nonneg c (Int.ne_of_gt he.1)
    have q1 : a - a / b * b = a % b := by rw [Int.emod_def, Int.mul_comm]
    have q2 : c - c / e * e = c % e := by rw [Int.emod_def, Int.mul_comm]
    rw [orC, flC_lI ha hb, flC_lI hc he, lI_mul, lI_sub, lI_mul, lI_sub, q1, q2, lI_0]
    rw [if_neg (by
      rintro (z | z)
      · rw [lI_le (by omega) (by omega)] at z; omega
      · rw [lI_le (by omega) (by omega)] at z; omega)]
    have E1 : lI (a / b) = lI (c / e) ↔ a / b = c / e := lI_eq (by omega) (by omega)
    have E2 : lI (a / b) < lI (c / e) ↔ a / b < c / e := lI_lt (by omega) (by omega)
    have E3 : lI (a % b) = lI 0 ↔ a % b = 0 := lI_eq (by omega) (by omega)
    have E4 : lI (c % e) = lI 0 ↔ c % e = 0 := lI_eq (by omega) (by omega)
    have E5 : lI (a % b) = lI (c % e) ↔ a % b = c % e := lI_eq (by omega) (by omega)
    rw [iI_neg]
    by_cases hq : a / b = c / e
    · rw [if_neg (fun z => z (E1.mpr hq))]
      have hc1 : cmpF a b c e = cmpF (a % b) b (c % e) e := by
        rw [cmpF_sub (p := a / b), q1, hq, q2]
      by_cases hz : a % b = 0 ∨ c % e = 0
      · rw [if_pos (hz.elim (fun z => Or.inl (E3.mpr z)) (fun z => Or.inr (E4.mpr z))), hc1, cmpF_zero hb.1 he.1 m2 m4 hz]
        by_cases h1 : a % b = c % e
        · rw [if_pos (E5.mpr h1), if_pos h1, Int.mul_zero]
          rfl
        · rw [if_neg (fun z => h1 (E5.mp z)), if_neg h1]
          by_cases h2 : a % b = 0
          · rw [if_pos (E3.mpr h2), if_pos h2]
            exact congrArg iI (by omega)
          · rw [if_neg (fun z => h2 (E3.mp z)), if_neg h2]
            exact congrArg iI (by omega)
      · rw [if_neg (fun z => hz (z.elim (fun y => Or.inl (E3.mp y)) (fun y => Or.inr (E4.mp y))))]
        have hz1 : ¬ a % b = 0 := fun z => hz (Or.inl z)
        have hz2 : ¬ c % e = 0 := fun z => hz (Or.inr z)
        rw [ih b (a % b) e (c % e) (-s) (by omega) (by omega) (by omega) (by omega) (by
          rcases h with h | h
          · exact Or.inr (h.next hb.1)
          · exact Or.inl (h.next hb.1))]
        rw [hc1, cmpF_turn (a % b), cmpF_sw b (a % b) e (c % e)]
        refine congrArg iI ?_
        rw [Int.neg_mul, Int.mul_neg]
    · rw [if_pos (fun z => hq (E1.mp z))]
      by_cases hl : a / b < c / e
      · rw [if_pos (E2.mpr hl), cmpF_lt hb.1 he.1 hl]
        exact congrArg iI (by omega)
      · rw [if_neg (fun z => hl (E2.mp z)), cmpF_gt hb.1 he.1 (by omega)]
        exact congrArg iI (by omega)
theorem ordC_cmp {a b c e : Int} (ha : -4611686018427387904 < a ∧ a < 4611686018427387904) (hb : 0 < b ∧ b < 4611686018427387904) (hc : -4611686018427387904 < c ∧ c < 4611686018427387904) (he : 0 < e ∧ e < 4611686018427387904) : ordC (lI a) (lI b) (lI c) (lI e) = iI (cmpF a b c e) := by
  unfold ordC
  have := orC_cmp 200 a b c e 1 ha hb hc he (Or.inl (T1_200 hb.2))
  rw [Int.one_mul] at this
  exact this

/-- rows of fractions as whole numbers -/
def lst (n : Nat) (N : Int → Int) : List Int64 := (List.range n).map (fun k : Nat => lI (N (k : Int)))
theorem LV_lst (n : Nat) (N : Int → Int) : LV (lst n N) = aL n N := by
  unfold LV lst aL
  rw [List.map_map]
  rfl
theorem lst_len (n : Nat) (N : Int → Int) : (lst n N).length = n := by simp [lst]
theorem lst_get {n : Nat} {N : Int → Int} {i : Int} (h : 0 ≤ i ∧ i < n) : (lst n N)[i.toNat]? = some (lI (N i)) := by
  unfold lst
  rw [List.getElem?_map, List.getElem?_range (by omega)]
  simp [Int.toNat_of_nonneg h.1]
theorem lst_set {n : Nat} {N : Int → Int} {i v : Int} (h : 0 ≤ i ∧ i < n) : (lst n N).set i.toNat (lI v) = lst n (up1 N i v) := by
  apply List.ext_getElem?
  intro j
  by_cases hj : i.toNat = j
  · subst hj
    rw [List.getElem?_set_self (by rw [lst_len]; omega), lst_get h, up1_eq]
  · rw [List.getElem?_set_ne hj]
    unfold lst
    rw [List.getElem?_map, List.getElem?_map]
    by_cases hn : j < n
    · rw [List.getElem?_range hn]
      simp only [Option.map_some]
      rw [up1_ne _ _ (by omega)]
    · rw [List.getElem?_eq_none (by simp; omega)]
      rfl
theorem iI_nI {z : Int} (h : 0 ≤ z) : iI z = nI z.toNat := by
  unfold nI
  rw [← Int32.ofInt_eq_ofNat, Int.toNat_of_nonneg h]
def FI (mem : AM) (a u v : Nat) (n : Nat) (N D : Int → Int) : Prop := FR mem a u v (lst n N) (lst n D)
def fsI (mem : AM) (u v : Nat) (n : Nat) (N D : Int → Int) : AM := (mem.set u (.inl (.long, aL n N))).set v (.inl (.long, aL n D))
theorem fs_fsI (mem : AM) (u v : Nat) (n : Nat) (N D : Int → Int) : fset mem u v (lst n N) (lst n D) = fsI mem u v n N D := by
  unfold fset fsI
  rw [LV_lst, LV_lst]
theorem FI.of {mem : AM} {a u v n : Nat} {N D : Int → Int} (h1 : mem[a]? = some (.inr (3, [.ref u, .ref v]))) (h2 : mem[u]? = some (.inl (.long, aL n N))) (h3 : mem[v]? = some (.inl (.long, aL n D))) (h4 : u ≠ v) (h5 : 2 ≤ u) (h6 : 2 ≤ v) (h7 : n ≤ 100) : FI mem a u v n N D :=
  ⟨h1, by rw [LV_lst]; exact h2, by rw [LV_lst]; exact h3, h4, h5, h6, by rw [lst_len, lst_len], by rw [lst_len]; exact h7⟩
section FRI
variable {mem : AM} {a u v b u' v' n n' : Nat} {N D N' D' : Int → Int}
theorem c_FrI_copy (d : Nat) {i j : Int} (ha : FI mem a u v n N D) (hb : FI mem b u' v' n' N' D') (hv : v' ≠ u) (hi : 0 ≤ i ∧ i < n) (hj : 0 ≤ j ∧ j < n') : Cg false d m_Fractions_copy [.ref a, .int (iI i), .ref b, .int (iI j)] mem (.inl none) (fsI mem u v n (up1 N i (N' j)) (up1 D i (D' j))) := by
  have := c_Fr_copy d (i := i.toNat) (j := j.toNat) ha hb hv (by rw [lst_len]; omega) (lst_get hj) (lst_get hj)
  rw [lst_set hi, lst_set hi, fs_fsI, ← iI_nI hi.1, ← iI_nI hj.1] at this
  exact this
theorem c_FrI_copyAll (d : Nat) (ha : FI mem a u v n N D) (hb : FI mem b u' v' n N' D') (hv : v' ≠ u) : Cg false d m_Fractions_copyAll [.ref a, .ref b] mem (.inl none) (fsI mem u v n N' D') := by
  have := c_Fr_copyAll d ha hb hv (by rw [lst_len, lst_len])
  rw [fs_fsI] at this
  exact this
theorem c_FrI_put (d : Nat) {i p q : Int} (ha : FI mem a u v n N D) (hi : 0 ≤ i ∧ i < n) (hp : -4611686018427387904 < p ∧ p < 4611686018427387904) (hq : 0 < q ∧ q < 4611686018427387904) : Cg false d m_Fractions_put [.ref a, .int (iI i), .long (lI p), .long (lI q)] mem (.inl none) (fsI mem u v n (up1 N i (nN p q)) (up1 D i (nD p q))) := by
  have := c_Fr_put d (i := i.toNat) (p := lI p) (q := lI q) ha (by rw [lst_len]; omega)
  rw [put_N hp hq, put_D hp hq, lst_set hi, lst_set hi, fs_fsI, ← iI_nI hi.1] at this
  exact this
theorem c_FrI_order (d : Nat) {i j : Int} (ha : FI mem a u v n N D) (hb : FI mem b u' v' n' N' D') (hi : 0 ≤ i ∧ i < n) (hj : 0 ≤ j ∧ j < n') (h1 : -4611686018427387904 < N i ∧ N i < 4611686018427387904) (h2 : 0 < D i ∧ D i < 4611686018427387904) (h3 : -4611686018427387904 < N' j ∧ N' j < 4611686018427387904) (h4 : 0 < D' j ∧ D' j < 4611686018427387904) : Cg true (d + 1) m_Fractions_orderTo [.ref a, .int (iI i), .ref b, .int (iI j)] mem (.inl (some (.int (iI (cmpF (N i) (D i) (N' j) (D' j)))))) mem := by
  have := c_Fr_orderTo d (i := i.toNat) (j := j.toNat) ha hb (lst_get hi) (lst_get hi) (lst_get hj) (lst_get hj)
  rw [ordC_cmp h1 h2 h3 h4, ← iI_nI hi.1, ← iI_nI hj.1] at this
  exact this
end FRI
