/-! Rules over whole numbers: an int is iI z, a long lI z, a truth value bP P; rows are functions. -/
abbrev iI (z : Int) : Int32 := Int32.ofInt z
abbrev lI (z : Int) : Int64 := Int64.ofInt z
noncomputable def bP (P : Prop) : Int32 := @ite _ P (Classical.propDecidable P) 1 0
theorem bP_t {P : Prop} (h : P) : bP P = iI 1 := by unfold bP; rw [if_pos h]; rfl
theorem bP_f {P : Prop} (h : ¬ P) : bP P = iI 0 := by unfold bP; rw [if_neg h]; rfl
theorem bP_c {P Q : Prop} (h : P ↔ Q) : bP P = bP Q := by rw [propext h]
theorem bP_01 (P : Prop) : bP P = 0 ∨ bP P = 1 := by
  by_cases h : P
  · exact Or.inr (bP_t h)
  · exact Or.inl (bP_f h)
theorem bP_0 {P : Prop} : bP P = 0 ↔ ¬ P := by
  by_cases h : P
  · rw [bP_t h]; simp [h]; decide
  · rw [bP_f h]; simp [h]; rfl
theorem bP_e {P Q : Prop} : bP P = bP Q ↔ (P ↔ Q) := by
  by_cases h : P <;> by_cases g : Q
  · rw [bP_t h, bP_t g]; simp [h, g]
  · rw [bP_t h, bP_f g]; simp [h, g]; decide
  · rw [bP_f h, bP_t g]; simp [h, g]; decide
  · rw [bP_f h, bP_f g]; simp [h, g]
theorem iI_to {a : Int} (h : -2147483648 ≤ a ∧ a < 2147483648) : (iI a).toInt = a := Int32.toInt_ofInt_of_le (by omega) (by omega)
theorem lI_to {a : Int} (h : -9223372036854775808 ≤ a ∧ a < 9223372036854775808) : (lI a).toInt = a := Int64.toInt_ofInt_of_le (by omega) (by omega)
theorem iI_eq {a b : Int} (ha : -2147483648 ≤ a ∧ a < 2147483648) (hb : -2147483648 ≤ b ∧ b < 2147483648) : iI a = iI b ↔ a = b := by rw [← Int32.toInt_inj, iI_to ha, iI_to hb]
theorem iI_lt {a b : Int} (ha : -2147483648 ≤ a ∧ a < 2147483648) (hb : -2147483648 ≤ b ∧ b < 2147483648) : iI a < iI b ↔ a < b := by rw [Int32.lt_iff_toInt_lt, iI_to ha, iI_to hb]
theorem iI_le {a b : Int} (ha : -2147483648 ≤ a ∧ a < 2147483648) (hb : -2147483648 ≤ b ∧ b < 2147483648) : iI a ≤ iI b ↔ a ≤ b := by rw [Int32.le_iff_toInt_le, iI_to ha, iI_to hb]
theorem lI_eq {a b : Int} (ha : -9223372036854775808 ≤ a ∧ a < 9223372036854775808) (hb : -9223372036854775808 ≤ b ∧ b < 9223372036854775808) : lI a = lI b ↔ a = b := by rw [← Int64.toInt_inj, lI_to ha, lI_to hb]
theorem lI_lt {a b : Int} (ha : -9223372036854775808 ≤ a ∧ a < 9223372036854775808) (hb : -9223372036854775808 ≤ b ∧ b < 9223372036854775808) : lI a < lI b ↔ a < b := by rw [Int64.lt_iff_toInt_lt, lI_to ha, lI_to hb]
theorem lI_le {a b : Int} (ha : -9223372036854775808 ≤ a ∧ a < 9223372036854775808) (hb : -9223372036854775808 ≤ b ∧ b < 9223372036854775808) : lI a ≤ lI b ↔ a ≤ b := by rw [Int64.le_iff_toInt_le, lI_to ha, lI_to hb]
theorem mn32 : Int32.minValue.toInt = -2147483648 := by decide
theorem mx32 : Int32.maxValue.toInt = 2147483647 := by decide
theorem mn64 : Int64.minValue.toInt = -9223372036854775808 := by decide
theorem mx64 : Int64.maxValue.toInt = 9223372036854775807 := by decide
theorem iI_tdiv {a b : Int} (ha : -2147483648 ≤ a ∧ a < 2147483648) (hb : -2147483648 ≤ b ∧ b < 2147483648) : iI a / iI b = iI (a.tdiv b) := (Int32.ofInt_tdiv (by rw [mn32]; omega) (by rw [mx32]; omega) (by rw [mn32]; omega) (by rw [mx32]; omega)).symm
theorem lI_tdiv {a b : Int} (ha : -9223372036854775808 ≤ a ∧ a < 9223372036854775808) (hb : -9223372036854775808 ≤ b ∧ b < 9223372036854775808) : lI a / lI b = lI (a.tdiv b) := (Int64.ofInt_tdiv (by rw [mn64]; omega) (by rw [mx64]; omega) (by rw [mn64]; omega) (by rw [mx64]; omega)).symm
theorem lI_of {a : Int} (h : -2147483648 ≤ a ∧ a < 2147483648) : (iI a).toInt64 = lI a := Int32.toInt64_ofInt (by rw [mn32]; omega) (by rw [mx32]; omega)
theorem ix_iI {z : Int} (h : 0 ≤ z ∧ z < 2147483648) : ix (iI z) = some z.toNat := by
  have e : iI z = nI z.toNat := by
    unfold nI
    rw [← Int32.ofInt_eq_ofNat, Int.toNat_of_nonneg h.1]
  rw [e, ix_nI (by omega)]
/-- rows -/
def aI (n : Nat) (f : Int → Int) : List Value := (List.range n).map (fun k : Nat => .int (iI (f (k : Int))))
def aL (n : Nat) (f : Int → Int) : List Value := (List.range n).map (fun k : Nat => .long (lI (f (k : Int))))
noncomputable def aZ (n : Nat) (f : Int → Prop) : List Value := (List.range n).map (fun k : Nat => .int (bP (f (k : Int))))
def up1 {α : Type _} (f : Int → α) (k : Int) (v : α) : Int → α := fun j => if j = k then v else f j
theorem up1_eq {α : Type _} (f : Int → α) (k : Int) (v : α) : up1 f k v k = v := by simp [up1]
theorem up1_ne {α : Type _} (f : Int → α) {k j : Int} (v : α) (h : ¬ j = k) : up1 f k v j = f j := by simp [up1, h]
theorem row_get {α : Type _} {g : α → Value} {n : Nat} {f : Int → α} {z : Int} (h : 0 ≤ z ∧ z < n) : ((List.range n).map (fun k : Nat => g (f (k : Int))))[z.toNat]? = some (g (f z)) := by
  rw [List.getElem?_map, List.getElem?_range (by omega)]
  simp [Int.toNat_of_nonneg h.1]
theorem row_set {α : Type _} {g : α → Value} {n : Nat} {f : Int → α} {z : Int} {v : α} (h : 0 ≤ z ∧ z < n) : ((List.range n).map (fun k : Nat => g (f (k : Int)))).set z.toNat (g v) = (List.range n).map (fun k : Nat => g (up1 f z v (k : Int))) := by
  apply List.ext_getElem?
  intro j
  by_cases hj : z.toNat = j
  · subst hj
    rw [List.getElem?_set_self (by simp; omega), List.getElem?_map, List.getElem?_range (by omega)]
    simp [up1, Int.toNat_of_nonneg h.1]
  · rw [List.getElem?_set_ne hj, List.getElem?_map, List.getElem?_map]
    by_cases hn : j < n
    · rw [List.getElem?_range hn]
      have : ¬ (j : Int) = z := by omega
      simp [up1, this]
    · rw [List.getElem?_eq_none (by simp; omega)]
      rfl
theorem row_congr {α : Type _} {g : α → Value} {n : Nat} {f f' : Int → α} (h : ∀ z : Int, 0 ≤ z → z < n → f z = f' z) : (List.range n).map (fun k : Nat => g (f (k : Int))) = (List.range n).map (fun k : Nat => g (f' (k : Int))) := by
  apply List.map_congr_left
  intro k hk
  rw [h k (by omega) (by have := List.mem_range.mp hk; omega)]
theorem aI_c {n : Nat} {f f' : Int → Int} (h : ∀ z : Int, 0 ≤ z → z < n → f z = f' z) : aI n f = aI n f' := row_congr (g := fun x => Value.int (iI x)) h
theorem aL_c {n : Nat} {f f' : Int → Int} (h : ∀ z : Int, 0 ≤ z → z < n → f z = f' z) : aL n f = aL n f' := row_congr (g := fun x => Value.long (lI x)) h
theorem aZ_c {n : Nat} {f f' : Int → Prop} (h : ∀ z : Int, 0 ≤ z → z < n → (f z ↔ f' z)) : aZ n f = aZ n f' := row_congr (g := fun x => Value.int (bP x)) (fun z h1 h2 => propext (h z h1 h2))
theorem aI_len (n : Nat) (f : Int → Int) : (aI n f).length = n := by simp [aI]
theorem aL_len (n : Nat) (f : Int → Int) : (aL n f).length = n := by simp [aL]
theorem aZ_len (n : Nat) (f : Int → Prop) : (aZ n f).length = n := by simp [aZ]
theorem aI_rep (n : Nat) (z : Int) : List.replicate n (Value.int (iI z)) = aI n (fun _ => z) := by simp [aI, List.map_const']
theorem aL_rep (n : Nat) (z : Int) : List.replicate n (Value.long (lI z)) = aL n (fun _ => z) := by simp [aL, List.map_const']
theorem aZ_rep (n : Nat) : List.replicate n (Value.int 0) = aZ n (fun _ => False) := by
  have : bP False = 0 := bP_f (fun h => h)
  simp [aZ, List.map_const', this]
theorem narrow_bP (P : Prop) : narrow .boolean (.int (bP P)) = .int (bP P) := by
  rcases bP_01 P with h | h <;> rw [h] <;> rfl
theorem fi0 : ((0 : Fin 4) : Nat) = 0 := rfl
theorem fi1 : ((1 : Fin 4) : Nat) = 1 := rfl
theorem fi2 : ((2 : Fin 4) : Nat) = 2 := rfl
theorem fi3 : ((3 : Fin 4) : Nat) = 3 := rfl
section IRULES
variable {φ : Bool} {d : Nat} {M : MI} {n0 pc : Nat} {L : AL} {st : List Value} {mem mem1 : AM} {o : Option Value ⊕ Nat} {mem' : AM}
theorem Rg.cst {st' : List Value} (h : st = st') (k : Rg φ d M n0 pc L st' mem o mem') : Rg φ d M n0 pc L st mem o mem' := by rw [h]; exact k
theorem Rg.toM {mem2 : AM} (h : mem' = mem2) (k : Rg φ d M n0 pc L st mem o mem') : Rg φ d M n0 pc L st mem o mem2 := by rw [← h]; exact k
theorem Rg.frM {mem2 : AM} (h : mem = mem2) (k : Rg φ d M n0 pc L st mem2 o mem') : Rg φ d M n0 pc L st mem o mem' := by rw [h]; exact k
theorem Cg.toM {as : List Value} {mem2 : AM} (h : mem' = mem2) (k : Cg φ d M as mem o mem') : Cg φ d M as mem o mem2 := by rw [← h]; exact k
theorem Cg.toO {as : List Value} {o2 : Option Value ⊕ Nat} (h : o = o2) (k : Cg φ d M as mem o mem') : Cg φ d M as mem o2 mem' := by rw [← h]; exact k
theorem Rg.bip {n : Int} (pc' : Nat) (hf : fetch M pc = some (.bipush n)) (hp : pc + 2 = pc') (he : (Int8.ofInt n).toInt32 = iI n) (k : Rg φ d M n0 pc' L (.int (iI n) :: st) mem o mem') : Rg φ d M n0 pc L st mem o mem' := by
  subst hp
  rw [← he] at k
  exact Rg.step _ hf rfl (fun _ => rfl) k
theorem Rg.sip {n : Int} (pc' : Nat) (hf : fetch M pc = some (.sipush n)) (hp : pc + 3 = pc') (he : (Int16.ofInt n).toInt32 = iI n) (k : Rg φ d M n0 pc' L (.int (iI n) :: st) mem o mem') : Rg φ d M n0 pc L st mem o mem' := by
  subst hp
  rw [← he] at k
  exact Rg.step _ hf rfl (fun _ => rfl) k
theorem Rg.lcn {n : Int} {m : Fin 2} (pc' : Nat) (hf : fetch M pc = some (.lconst m)) (hp : pc + 1 = pc') (he : Int64.ofNat (m : Nat) = lI n) (k : Rg φ d M n0 pc' L (.long (lI n) :: st) mem o mem') : Rg φ d M n0 pc L st mem o mem' := by
  subst hp
  rw [← he] at k
  exact Rg.step _ hf rfl (fun _ => rfl) k
theorem Rg.ldcI {i : Nat} {v : Int32} {n : Int} (pc' : Nat) (hf : fetch M pc = some (.ldc i)) (hp : pc + 2 = pc') (hr : rK (mH M) i = some v) (he : v = iI n) (k : Rg φ d M n0 pc' L (.int (iI n) :: st) mem o mem') : Rg φ d M n0 pc L st mem o mem' := by
  subst hp
  rw [← he] at k
  exact Rg.step _ hf (by dsimp only [one]; rw [hr]; rfl) (fun _ => rfl) k
theorem Rg.ldc2 {i : Nat} {v : Int64} {n : Int} (pc' : Nat) (hf : fetch M pc = some (.ldc2_w i)) (hp : pc + 3 = pc') (hr : rJ (mH M) i = some v) (he : v = lI n) (k : Rg φ d M n0 pc' L (.long (lI n) :: st) mem o mem') : Rg φ d M n0 pc L st mem o mem' := by
  subst hp
  rw [← he] at k
  exact Rg.step _ hf (by dsimp only [one]; rw [hr]; rfl) (fun _ => rfl) k
theorem Rg.addI {a b : Int} (pc' : Nat) (hf : fetch M pc = some .iadd) (hp : pc + 1 = pc') (k : Rg φ d M n0 pc' L (.int (iI (a + b)) :: st) mem o mem') : Rg φ d M n0 pc L (.int (iI b) :: .int (iI a) :: st) mem o mem' := by
  subst hp
  rw [show iI (a + b) = iI a + iI b from Int32.ofInt_add a b] at k
  exact Rg.step _ hf rfl (fun _ => rfl) k
theorem Rg.addL {a b : Int} (pc' : Nat) (hf : fetch M pc = some .ladd) (hp : pc + 1 = pc') (k : Rg φ d M n0 pc' L (.long (lI (a + b)) :: st) mem o mem') : Rg φ d M n0 pc L (.long (lI b) :: .long (lI a) :: st) mem o mem' := by
  subst hp
  rw [show lI (a + b) = lI a + lI b from Int64.ofInt_add a b] at k
  exact Rg.step _ hf rfl (fun _ => rfl) k
theorem Rg.subI {a b : Int} (pc' : Nat) (hf : fetch M pc = some .isub) (hp : pc + 1 = pc') (k : Rg φ d M n0 pc' L (.int (iI (a - b)) :: st) mem o mem') : Rg φ d M n0 pc L (.int (iI b) :: .int (iI a) :: st) mem o mem' := by
  subst hp
  rw [show iI (a - b) = iI a - iI b from Int32.ofInt_sub a b] at k
  exact Rg.step _ hf rfl (fun _ => rfl) k
theorem Rg.subL {a b : Int} (pc' : Nat) (hf : fetch M pc = some .lsub) (hp : pc + 1 = pc') (k : Rg φ d M n0 pc' L (.long (lI (a - b)) :: st) mem o mem') : Rg φ d M n0 pc L (.long (lI b) :: .long (lI a) :: st) mem o mem' := by
  subst hp
  rw [show lI (a - b) = lI a - lI b from Int64.ofInt_sub a b] at k
  exact Rg.step _ hf rfl (fun _ => rfl) k
theorem Rg.mulI {a b : Int} (pc' : Nat) (hf : fetch M pc = some .imul) (hp : pc + 1 = pc') (k : Rg φ d M n0 pc' L (.int (iI (a * b)) :: st) mem o mem') : Rg φ d M n0 pc L (.int (iI b) :: .int (iI a) :: st) mem o mem' := by
  subst hp
  rw [show iI (a * b) = iI a * iI b from Int32.ofInt_mul a b] at k
  exact Rg.step _ hf rfl (fun _ => rfl) k
theorem Rg.mulL {a b : Int} (pc' : Nat) (hf : fetch M pc = some .lmul) (hp : pc + 1 = pc') (k : Rg φ d M n0 pc' L (.long (lI (a * b)) :: st) mem o mem') : Rg φ d M n0 pc L (.long (lI b) :: .long (lI a) :: st) mem o mem' := by
  subst hp
  rw [show lI (a * b) = lI a * lI b from Int64.ofInt_mul a b] at k
  exact Rg.step _ hf rfl (fun _ => rfl) k
theorem Rg.negI {a : Int} (pc' : Nat) (hf : fetch M pc = some .ineg) (hp : pc + 1 = pc') (k : Rg φ d M n0 pc' L (.int (iI (-a)) :: st) mem o mem') : Rg φ d M n0 pc L (.int (iI a) :: st) mem o mem' := by
  subst hp
  rw [show iI (-a) = -iI a from Int32.ofInt_neg a] at k
  exact Rg.step _ hf rfl (fun _ => rfl) k
theorem Rg.divIt {a b : Int} (pc' : Nat) (hf : fetch M pc = some .idiv) (hp : pc + 1 = pc') (ha : -2147483648 ≤ a ∧ a < 2147483648) (hb : -2147483648 ≤ b ∧ b < 2147483648) (hz : ¬ b = 0) (k : Rg φ d M n0 pc' L (.int (iI (a.tdiv b)) :: st) mem o mem') : Rg φ d M n0 pc L (.int (iI b) :: .int (iI a) :: st) mem o mem' := by
  rw [← iI_tdiv ha hb] at k
  exact Rg.divI _ hf hp (fun z => hz ((iI_eq hb (by omega : -2147483648 ≤ 0 ∧ (0 : Int) < 2147483648)).mp z)) k
theorem Rg.remIt {a b : Int} (pc' : Nat) (hf : fetch M pc = some .irem) (hp : pc + 1 = pc') (ha : -2147483648 ≤ a ∧ a < 2147483648) (hb : -2147483648 ≤ b ∧ b < 2147483648) (hz : ¬ b = 0) (k : Rg φ d M n0 pc' L (.int (iI (a.tmod b)) :: st) mem o mem') : Rg φ d M n0 pc L (.int (iI b) :: .int (iI a) :: st) mem o mem' := by
  have e1 : iI (a.tmod b) = iI a - iI a / iI b * iI b := by
    rw [iI_tdiv ha hb, Int.tmod_def, Int.mul_comm b, show iI (a - a.tdiv b * b) = iI a - iI (a.tdiv b * b) from Int32.ofInt_sub _ _, show iI (a.tdiv b * b) = iI (a.tdiv b) * iI b from Int32.ofInt_mul _ _]
  rw [e1] at k
  exact Rg.remI _ hf hp (fun z => hz ((iI_eq hb (by omega : -2147483648 ≤ 0 ∧ (0 : Int) < 2147483648)).mp z)) k
theorem Rg.divIp {a b : Int} (pc' : Nat) (hf : fetch M pc = some .idiv) (hp : pc + 1 = pc') (ha : 0 ≤ a ∧ a < 2147483648) (hb : 0 < b ∧ b < 2147483648) (k : Rg φ d M n0 pc' L (.int (iI (a / b)) :: st) mem o mem') : Rg φ d M n0 pc L (.int (iI b) :: .int (iI a) :: st) mem o mem' := by
  rw [show a / b = a.tdiv b from (Int.tdiv_eq_ediv_of_nonneg ha.1).symm] at k
  exact Rg.divIt pc' hf hp (by omega) (by omega) (by omega) k
theorem Rg.remIp {a b : Int} (pc' : Nat) (hf : fetch M pc = some .irem) (hp : pc + 1 = pc') (ha : 0 ≤ a ∧ a < 2147483648) (hb : 0 < b ∧ b < 2147483648) (k : Rg φ d M n0 pc' L (.int (iI (a % b)) :: st) mem o mem') : Rg φ d M n0 pc L (.int (iI b) :: .int (iI a) :: st) mem o mem' := by
  rw [show a % b = a.tmod b from (Int.tmod_eq_emod_of_nonneg ha.1).symm] at k
  exact Rg.remIt pc' hf hp (by omega) (by omega) (by omega) k
theorem Rg.negL {a : Int} (pc' : Nat) (hf : fetch M pc = some .lneg) (hp : pc + 1 = pc') (k : Rg φ d M n0 pc' L (.long (lI (-a)) :: st) mem o mem') : Rg φ d M n0 pc L (.long (lI a) :: st) mem o mem' := by
  subst hp
  rw [show lI (-a) = -lI a from Int64.ofInt_neg a] at k
  exact Rg.step _ hf rfl (fun _ => rfl) k
theorem Rg.divLt {a b : Int} (pc' : Nat) (hf : fetch M pc = some .ldiv) (hp : pc + 1 = pc') (ha : -9223372036854775808 ≤ a ∧ a < 9223372036854775808) (hb : -9223372036854775808 ≤ b ∧ b < 9223372036854775808) (hz : ¬ b = 0) (k : Rg φ d M n0 pc' L (.long (lI (a.tdiv b)) :: st) mem o mem') : Rg φ d M n0 pc L (.long (lI b) :: .long (lI a) :: st) mem o mem' := by
  rw [← lI_tdiv ha hb] at k
  exact Rg.divL _ hf hp (fun z => hz ((lI_eq hb (by omega : -9223372036854775808 ≤ 0 ∧ (0 : Int) < 9223372036854775808)).mp z)) k
theorem Rg.remLt {a b : Int} (pc' : Nat) (hf : fetch M pc = some .lrem) (hp : pc + 1 = pc') (ha : -9223372036854775808 ≤ a ∧ a < 9223372036854775808) (hb : -9223372036854775808 ≤ b ∧ b < 9223372036854775808) (hz : ¬ b = 0) (k : Rg φ d M n0 pc' L (.long (lI (a.tmod b)) :: st) mem o mem') : Rg φ d M n0 pc L (.long (lI b) :: .long (lI a) :: st) mem o mem' := by
  have e1 : lI (a.tmod b) = lI a - lI a / lI b * lI b := by
    rw [lI_tdiv ha hb, Int.tmod_def, Int.mul_comm b, show lI (a - a.tdiv b * b) = lI a - lI (a.tdiv b * b) from Int64.ofInt_sub _ _, show lI (a.tdiv b * b) = lI (a.tdiv b) * lI b from Int64.ofInt_mul _ _]
  rw [e1] at k
  exact Rg.remL _ hf hp (fun z => hz ((lI_eq hb (by omega : -9223372036854775808 ≤ 0 ∧ (0 : Int) < 9223372036854775808)).mp z)) k
theorem Rg.divLp {a b : Int} (pc' : Nat) (hf : fetch M pc = some .ldiv) (hp : pc + 1 = pc') (ha : 0 ≤ a ∧ a < 9223372036854775808) (hb : 0 < b ∧ b < 9223372036854775808) (k : Rg φ d M n0 pc' L (.long (lI (a / b)) :: st) mem o mem') : Rg φ d M n0 pc L (.long (lI b) :: .long (lI a) :: st) mem o mem' := by
  rw [show a / b = a.tdiv b from (Int.tdiv_eq_ediv_of_nonneg ha.1).symm] at k
  exact Rg.divLt pc' hf hp (by omega) (by omega) (by omega) k
theorem Rg.remLp {a b : Int} (pc' : Nat) (hf : fetch M pc = some .lrem) (hp : pc + 1 = pc') (ha : 0 ≤ a ∧ a < 9223372036854775808) (hb : 0 < b ∧ b < 9223372036854775808) (k : Rg φ d M n0 pc' L (.long (lI (a % b)) :: st) mem o mem') : Rg φ d M n0 pc L (.long (lI b) :: .long (lI a) :: st) mem o mem' := by
  rw [show a % b = a.tmod b from (Int.tmod_eq_emod_of_nonneg ha.1).symm] at k
  exact Rg.remLt pc' hf hp (by omega) (by omega) (by omega) k
theorem Rg.i2l {a : Int} (pc' : Nat) (hf : fetch M pc = some .i2l) (hp : pc + 1 = pc') (ha : -2147483648 ≤ a ∧ a < 2147483648) (k : Rg φ d M n0 pc' L (.long (lI a) :: st) mem o mem') : Rg φ d M n0 pc L (.int (iI a) :: st) mem o mem' := by
  subst hp
  rw [← lI_of ha] at k
  exact Rg.step _ hf rfl (fun _ => rfl) k
theorem Rg.inc {j : Nat} {n x : Int} (pc' : Nat) (hf : fetch M pc = some (.iinc j n)) (hp : pc + 3 = pc') (hg : lget L j = some (.int (iI x))) (hj : j < mL M) (k : Rg φ d M n0 pc' (lput1 L j (.int (iI (x + n)))) st mem o mem') : Rg φ d M n0 pc L st mem o mem' := by
  subst hp
  rw [show iI (x + n) = iI x + iI n from Int32.ofInt_add _ _] at k
  exact Rg.step _ hf (by dsimp only [one]; rw [hg]; dsimp only; rw [if_pos hj]; rfl) (fun _ => rfl) k
theorem Rg.orP {A B : Prop} (pc' : Nat) (hf : fetch M pc = some .ior) (hp : pc + 1 = pc') (k : Rg φ d M n0 pc' L (.int (bP (A ∨ B)) :: st) mem o mem') : Rg φ d M n0 pc L (.int (bP B) :: .int (bP A) :: st) mem o mem' := by
  subst hp
  have e1 : bP A ||| bP B = bP (A ∨ B) := by
    by_cases h : A <;> by_cases g : B
    · rw [bP_t h, bP_t g, bP_t (Or.inl h)]; decide
    · rw [bP_t h, bP_f g, bP_t (Or.inl h)]; decide
    · rw [bP_f h, bP_t g, bP_t (Or.inr g)]; decide
    · rw [bP_f h, bP_f g, bP_f (fun z => z.elim h g)]; decide
  rw [← e1] at k
  exact Rg.step _ hf rfl (fun _ => rfl) k
theorem Rg.iceqI {a b off : Int} (t pc' : Nat) (hf : fetch M pc = some (.if_icmp .eq off)) (ht : br pc off = some t) (hp : pc + 3 = pc') (ha : -2147483648 ≤ a ∧ a < 2147483648) (hb : -2147483648 ≤ b ∧ b < 2147483648) (ky : a = b → Rg φ d M n0 t L st mem o mem') (kn : ¬ a = b → Rg φ d M n0 pc' L st mem o mem') : Rg φ d M n0 pc L (.int (iI b) :: .int (iI a) :: st) mem o mem' :=
  Rg.iceq t pc' hf ht hp (fun h => ky ((iI_eq ha hb).mp h)) (fun h => kn (fun z => h ((iI_eq ha hb).mpr z)))
theorem Rg.ifeqI {a off : Int} (t pc' : Nat) (hf : fetch M pc = some (.ifCond .eq off)) (ht : br pc off = some t) (hp : pc + 3 = pc') (ha : -2147483648 ≤ a ∧ a < 2147483648) (ky : a = 0 → Rg φ d M n0 t L st mem o mem') (kn : ¬ a = 0 → Rg φ d M n0 pc' L st mem o mem') : Rg φ d M n0 pc L (.int (iI a) :: st) mem o mem' :=
  Rg.ifeq t pc' hf ht hp (fun h => ky ((iI_eq ha (by omega : -2147483648 ≤ (0 : Int) ∧ (0 : Int) < 2147483648)).mp h)) (fun h => kn (fun z => h ((iI_eq ha (by omega : -2147483648 ≤ (0 : Int) ∧ (0 : Int) < 2147483648)).mpr z)))
theorem Rg.lceq {a b off : Int} (t pc' : Nat) (h1 : fetch M pc = some .lcmp) (hf : fetch M (pc + 1) = some (.ifCond .eq off)) (ht : br (pc + 1) off = some t) (hp : pc + 1 + 3 = pc') (ha : -9223372036854775808 ≤ a ∧ a < 9223372036854775808) (hb : -9223372036854775808 ≤ b ∧ b < 9223372036854775808) (ky : a = b → Rg φ d M n0 t L st mem o mem') (kn : ¬ a = b → Rg φ d M n0 pc' L st mem o mem') : Rg φ d M n0 pc L (.long (lI b) :: .long (lI a) :: st) mem o mem' :=
  Rg.step (pc + 1) h1 rfl (fun _ => rfl) (Rg.ifeq t pc' hf ht hp (fun h => ky ((lI_eq ha hb).mp ((lg_cmp_eq _ _).mp h))) (fun h => kn (fun z => h ((lg_cmp_eq _ _).mpr ((lI_eq ha hb).mpr z)))))
theorem Rg.icneI {a b off : Int} (t pc' : Nat) (hf : fetch M pc = some (.if_icmp .ne off)) (ht : br pc off = some t) (hp : pc + 3 = pc') (ha : -2147483648 ≤ a ∧ a < 2147483648) (hb : -2147483648 ≤ b ∧ b < 2147483648) (ky : ¬ a = b → Rg φ d M n0 t L st mem o mem') (kn : a = b → Rg φ d M n0 pc' L st mem o mem') : Rg φ d M n0 pc L (.int (iI b) :: .int (iI a) :: st) mem o mem' :=
  Rg.icne t pc' hf ht hp (fun h => ky (fun z => h ((iI_eq ha hb).mpr z))) (fun h => kn ((iI_eq ha hb).mp h))
theorem Rg.ifneI {a off : Int} (t pc' : Nat) (hf : fetch M pc = some (.ifCond .ne off)) (ht : br pc off = some t) (hp : pc + 3 = pc') (ha : -2147483648 ≤ a ∧ a < 2147483648) (ky : ¬ a = 0 → Rg φ d M n0 t L st mem o mem') (kn : a = 0 → Rg φ d M n0 pc' L st mem o mem') : Rg φ d M n0 pc L (.int (iI a) :: st) mem o mem' :=
  Rg.ifne t pc' hf ht hp (fun h => ky (fun z => h ((iI_eq ha (by omega : -2147483648 ≤ (0 : Int) ∧ (0 : Int) < 2147483648)).mpr z))) (fun h => kn ((iI_eq ha (by omega : -2147483648 ≤ (0 : Int) ∧ (0 : Int) < 2147483648)).mp h))
theorem Rg.lcne {a b off : Int} (t pc' : Nat) (h1 : fetch M pc = some .lcmp) (hf : fetch M (pc + 1) = some (.ifCond .ne off)) (ht : br (pc + 1) off = some t) (hp : pc + 1 + 3 = pc') (ha : -9223372036854775808 ≤ a ∧ a < 9223372036854775808) (hb : -9223372036854775808 ≤ b ∧ b < 9223372036854775808) (ky : ¬ a = b → Rg φ d M n0 t L st mem o mem') (kn : a = b → Rg φ d M n0 pc' L st mem o mem') : Rg φ d M n0 pc L (.long (lI b) :: .long (lI a) :: st) mem o mem' :=
  Rg.step (pc + 1) h1 rfl (fun _ => rfl) (Rg.ifne t pc' hf ht hp (fun h => ky (fun z => h ((lg_cmp_eq _ _).mpr ((lI_eq ha hb).mpr z)))) (fun h => kn ((lI_eq ha hb).mp ((lg_cmp_eq _ _).mp h))))
theorem Rg.icltI {a b off : Int} (t pc' : Nat) (hf : fetch M pc = some (.if_icmp .lt off)) (ht : br pc off = some t) (hp : pc + 3 = pc') (ha : -2147483648 ≤ a ∧ a < 2147483648) (hb : -2147483648 ≤ b ∧ b < 2147483648) (ky : a < b → Rg φ d M n0 t L st mem o mem') (kn : ¬ a < b → Rg φ d M n0 pc' L st mem o mem') : Rg φ d M n0 pc L (.int (iI b) :: .int (iI a) :: st) mem o mem' :=
  Rg.iclt t pc' hf ht hp (fun h => ky ((iI_lt ha hb).mp h)) (fun h => kn (fun z => h ((iI_lt ha hb).mpr z)))
theorem Rg.ifltI {a off : Int} (t pc' : Nat) (hf : fetch M pc = some (.ifCond .lt off)) (ht : br pc off = some t) (hp : pc + 3 = pc') (ha : -2147483648 ≤ a ∧ a < 2147483648) (ky : a < 0 → Rg φ d M n0 t L st mem o mem') (kn : ¬ a < 0 → Rg φ d M n0 pc' L st mem o mem') : Rg φ d M n0 pc L (.int (iI a) :: st) mem o mem' :=
  Rg.iflt t pc' hf ht hp (fun h => ky ((iI_lt ha (by omega : -2147483648 ≤ (0 : Int) ∧ (0 : Int) < 2147483648)).mp h)) (fun h => kn (fun z => h ((iI_lt ha (by omega : -2147483648 ≤ (0 : Int) ∧ (0 : Int) < 2147483648)).mpr z)))
theorem Rg.lclt {a b off : Int} (t pc' : Nat) (h1 : fetch M pc = some .lcmp) (hf : fetch M (pc + 1) = some (.ifCond .lt off)) (ht : br (pc + 1) off = some t) (hp : pc + 1 + 3 = pc') (ha : -9223372036854775808 ≤ a ∧ a < 9223372036854775808) (hb : -9223372036854775808 ≤ b ∧ b < 9223372036854775808) (ky : a < b → Rg φ d M n0 t L st mem o mem') (kn : ¬ a < b → Rg φ d M n0 pc' L st mem o mem') : Rg φ d M n0 pc L (.long (lI b) :: .long (lI a) :: st) mem o mem' :=
  Rg.step (pc + 1) h1 rfl (fun _ => rfl) (Rg.iflt t pc' hf ht hp (fun h => ky ((lI_lt ha hb).mp ((lg_cmp_lt _ _).mp h))) (fun h => kn (fun z => h ((lg_cmp_lt _ _).mpr ((lI_lt ha hb).mpr z)))))
theorem Rg.icgeI {a b off : Int} (t pc' : Nat) (hf : fetch M pc = some (.if_icmp .ge off)) (ht : br pc off = some t) (hp : pc + 3 = pc') (ha : -2147483648 ≤ a ∧ a < 2147483648) (hb : -2147483648 ≤ b ∧ b < 2147483648) (ky : b ≤ a → Rg φ d M n0 t L st mem o mem') (kn : ¬ b ≤ a → Rg φ d M n0 pc' L st mem o mem') : Rg φ d M n0 pc L (.int (iI b) :: .int (iI a) :: st) mem o mem' :=
  Rg.icge t pc' hf ht hp (fun h => ky ((iI_le hb ha).mp h)) (fun h => kn (fun z => h ((iI_le hb ha).mpr z)))
theorem Rg.ifgeI {a off : Int} (t pc' : Nat) (hf : fetch M pc = some (.ifCond .ge off)) (ht : br pc off = some t) (hp : pc + 3 = pc') (ha : -2147483648 ≤ a ∧ a < 2147483648) (ky : 0 ≤ a → Rg φ d M n0 t L st mem o mem') (kn : ¬ 0 ≤ a → Rg φ d M n0 pc' L st mem o mem') : Rg φ d M n0 pc L (.int (iI a) :: st) mem o mem' :=
  Rg.ifge t pc' hf ht hp (fun h => ky ((iI_le (by omega : -2147483648 ≤ (0 : Int) ∧ (0 : Int) < 2147483648) ha).mp h)) (fun h => kn (fun z => h ((iI_le (by omega : -2147483648 ≤ (0 : Int) ∧ (0 : Int) < 2147483648) ha).mpr z)))
theorem Rg.lcge {a b off : Int} (t pc' : Nat) (h1 : fetch M pc = some .lcmp) (hf : fetch M (pc + 1) = some (.ifCond .ge off)) (ht : br (pc + 1) off = some t) (hp : pc + 1 + 3 = pc') (ha : -9223372036854775808 ≤ a ∧ a < 9223372036854775808) (hb : -9223372036854775808 ≤ b ∧ b < 9223372036854775808) (ky : b ≤ a → Rg φ d M n0 t L st mem o mem') (kn : ¬ b ≤ a → Rg φ d M n0 pc' L st mem o mem') : Rg φ d M n0 pc L (.long (lI b) :: .long (lI a) :: st) mem o mem' :=
  Rg.step (pc + 1) h1 rfl (fun _ => rfl) (Rg.ifge t pc' hf ht hp (fun h => ky ((lI_le hb ha).mp ((lg_cmp_ge _ _).mp h))) (fun h => kn (fun z => h ((lg_cmp_ge _ _).mpr ((lI_le hb ha).mpr z)))))
theorem Rg.icgtI {a b off : Int} (t pc' : Nat) (hf : fetch M pc = some (.if_icmp .gt off)) (ht : br pc off = some t) (hp : pc + 3 = pc') (ha : -2147483648 ≤ a ∧ a < 2147483648) (hb : -2147483648 ≤ b ∧ b < 2147483648) (ky : b < a → Rg φ d M n0 t L st mem o mem') (kn : ¬ b < a → Rg φ d M n0 pc' L st mem o mem') : Rg φ d M n0 pc L (.int (iI b) :: .int (iI a) :: st) mem o mem' :=
  Rg.icgt t pc' hf ht hp (fun h => ky ((iI_lt hb ha).mp h)) (fun h => kn (fun z => h ((iI_lt hb ha).mpr z)))
theorem Rg.ifgtI {a off : Int} (t pc' : Nat) (hf : fetch M pc = some (.ifCond .gt off)) (ht : br pc off = some t) (hp : pc + 3 = pc') (ha : -2147483648 ≤ a ∧ a < 2147483648) (ky : 0 < a → Rg φ d M n0 t L st mem o mem') (kn : ¬ 0 < a → Rg φ d M n0 pc' L st mem o mem') : Rg φ d M n0 pc L (.int (iI a) :: st) mem o mem' :=
  Rg.ifgt t pc' hf ht hp (fun h => ky ((iI_lt (by omega : -2147483648 ≤ (0 : Int) ∧ (0 : Int) < 2147483648) ha).mp h)) (fun h => kn (fun z => h ((iI_lt (by omega : -2147483648 ≤ (0 : Int) ∧ (0 : Int) < 2147483648) ha).mpr z)))
theorem Rg.lcgt {a b off : Int} (t pc' : Nat) (h1 : fetch M pc = some .lcmp) (hf : fetch M (pc + 1) = some (.ifCond .gt off)) (ht : br (pc + 1) off = some t) (hp : pc + 1 + 3 = pc') (ha : -9223372036854775808 ≤ a ∧ a < 9223372036854775808) (hb : -9223372036854775808 ≤ b ∧ b < 9223372036854775808) (ky : b < a → Rg φ d M n0 t L st mem o mem') (kn : ¬ b < a → Rg φ d M n0 pc' L st mem o mem') : Rg φ d M n0 pc L (.long (lI b) :: .long (lI a) :: st) mem o mem' :=
  Rg.step (pc + 1) h1 rfl (fun _ => rfl) (Rg.ifgt t pc' hf ht hp (fun h => ky ((lI_lt hb ha).mp ((lg_cmp_gt _ _).mp h))) (fun h => kn (fun z => h ((lg_cmp_gt _ _).mpr ((lI_lt hb ha).mpr z)))))
theorem Rg.icleI {a b off : Int} (t pc' : Nat) (hf : fetch M pc = some (.if_icmp .le off)) (ht : br pc off = some t) (hp : pc + 3 = pc') (ha : -2147483648 ≤ a ∧ a < 2147483648) (hb : -2147483648 ≤ b ∧ b < 2147483648) (ky : a ≤ b → Rg φ d M n0 t L st mem o mem') (kn : ¬ a ≤ b → Rg φ d M n0 pc' L st mem o mem') : Rg φ d M n0 pc L (.int (iI b) :: .int (iI a) :: st) mem o mem' :=
  Rg.icle t pc' hf ht hp (fun h => ky ((iI_le ha hb).mp h)) (fun h => kn (fun z => h ((iI_le ha hb).mpr z)))
theorem Rg.ifleI {a off : Int} (t pc' : Nat) (hf : fetch M pc = some (.ifCond .le off)) (ht : br pc off = some t) (hp : pc + 3 = pc') (ha : -2147483648 ≤ a ∧ a < 2147483648) (ky : a ≤ 0 → Rg φ d M n0 t L st mem o mem') (kn : ¬ a ≤ 0 → Rg φ d M n0 pc' L st mem o mem') : Rg φ d M n0 pc L (.int (iI a) :: st) mem o mem' :=
  Rg.ifle t pc' hf ht hp (fun h => ky ((iI_le ha (by omega : -2147483648 ≤ (0 : Int) ∧ (0 : Int) < 2147483648)).mp h)) (fun h => kn (fun z => h ((iI_le ha (by omega : -2147483648 ≤ (0 : Int) ∧ (0 : Int) < 2147483648)).mpr z)))
theorem Rg.lcle {a b off : Int} (t pc' : Nat) (h1 : fetch M pc = some .lcmp) (hf : fetch M (pc + 1) = some (.ifCond .le off)) (ht : br (pc + 1) off = some t) (hp : pc + 1 + 3 = pc') (ha : -9223372036854775808 ≤ a ∧ a < 9223372036854775808) (hb : -9223372036854775808 ≤ b ∧ b < 9223372036854775808) (ky : a ≤ b → Rg φ d M n0 t L st mem o mem') (kn : ¬ a ≤ b → Rg φ d M n0 pc' L st mem o mem') : Rg φ d M n0 pc L (.long (lI b) :: .long (lI a) :: st) mem o mem' :=
  Rg.step (pc + 1) h1 rfl (fun _ => rfl) (Rg.ifle t pc' hf ht hp (fun h => ky ((lI_le ha hb).mp ((lg_cmp_le _ _).mp h))) (fun h => kn (fun z => h ((lg_cmp_le _ _).mpr ((lI_le ha hb).mpr z)))))
theorem Rg.ifeqP {A : Prop} {off : Int} (t pc' : Nat) (hf : fetch M pc = some (.ifCond .eq off)) (ht : br pc off = some t) (hp : pc + 3 = pc') (ky : ¬ A → Rg φ d M n0 t L st mem o mem') (kn : A → Rg φ d M n0 pc' L st mem o mem') : Rg φ d M n0 pc L (.int (bP A) :: st) mem o mem' :=
  Rg.ifeq t pc' hf ht hp (fun h => ky (bP_0.mp h)) (fun h => kn (Classical.byContradiction (fun z => h (bP_0.mpr z))))
theorem Rg.ifneP {A : Prop} {off : Int} (t pc' : Nat) (hf : fetch M pc = some (.ifCond .ne off)) (ht : br pc off = some t) (hp : pc + 3 = pc') (ky : A → Rg φ d M n0 t L st mem o mem') (kn : ¬ A → Rg φ d M n0 pc' L st mem o mem') : Rg φ d M n0 pc L (.int (bP A) :: st) mem o mem' :=
  Rg.ifne t pc' hf ht hp (fun h => ky (Classical.byContradiction (fun z => h (bP_0.mpr z)))) (fun h => kn (bP_0.mp h))
theorem Rg.icneP {A B : Prop} {off : Int} (t pc' : Nat) (hf : fetch M pc = some (.if_icmp .ne off)) (ht : br pc off = some t) (hp : pc + 3 = pc') (ky : ¬ (A ↔ B) → Rg φ d M n0 t L st mem o mem') (kn : (A ↔ B) → Rg φ d M n0 pc' L st mem o mem') : Rg φ d M n0 pc L (.int (bP B) :: .int (bP A) :: st) mem o mem' :=
  Rg.icne t pc' hf ht hp (fun h => ky (fun z => h (bP_e.mpr z))) (fun h => kn (bP_e.mp h))
theorem Rg.ild {a n : Nat} {f : Int → Int} {z : Int} (pc' : Nat) (hf : fetch M pc = some .iaload) (hp : pc + 1 = pc') (hm : mem[a]? = some (.inl (.int, aI n f))) (hz : 0 ≤ z ∧ z < n) (hn : n ≤ 100) (kk : Rg φ d M n0 pc' L (.int (iI (f z)) :: st) mem o mem') : Rg φ d M n0 pc L (.int (iI z) :: .ref a :: st) mem o mem' :=
  Rg.iald pc' hf hp hm (ix_iI (by omega)) (row_get (g := fun x => Value.int (iI x)) hz) kk
theorem Rg.lld {a n : Nat} {f : Int → Int} {z : Int} (pc' : Nat) (hf : fetch M pc = some .laload) (hp : pc + 1 = pc') (hm : mem[a]? = some (.inl (.long, aL n f))) (hz : 0 ≤ z ∧ z < n) (hn : n ≤ 100) (kk : Rg φ d M n0 pc' L (.long (lI (f z)) :: st) mem o mem') : Rg φ d M n0 pc L (.int (iI z) :: .ref a :: st) mem o mem' :=
  Rg.lald pc' hf hp hm (ix_iI (by omega)) (row_get (g := fun x => Value.long (lI x)) hz) kk
theorem Rg.zld {a n : Nat} {f : Int → Prop} {z : Int} (pc' : Nat) (hf : fetch M pc = some .baload) (hp : pc + 1 = pc') (hm : mem[a]? = some (.inl (.boolean, aZ n f))) (hz : 0 ≤ z ∧ z < n) (hn : n ≤ 100) (kk : Rg φ d M n0 pc' L (.int (bP (f z)) :: st) mem o mem') : Rg φ d M n0 pc L (.int (iI z) :: .ref a :: st) mem o mem' :=
  Rg.zald pc' hf hp hm (ix_iI (by omega)) (row_get (g := fun x => Value.int (bP x)) hz) kk
theorem Rg.ist {a n : Nat} {f : Int → Int} {z v : Int} (pc' : Nat) (hf : fetch M pc = some .iastore) (hp : pc + 1 = pc') (hm : mem[a]? = some (.inl (.int, aI n f))) (ha : 2 ≤ a) (hs : mem.set a (.inl (.int, aI n (up1 f z v))) = mem1) (hz : 0 ≤ z ∧ z < n) (hn : n ≤ 100) (kk : Rg false d M n0 pc' L st mem1 o mem') : Rg false d M n0 pc L (.int (iI v) :: .int (iI z) :: .ref a :: st) mem o mem' :=
  Rg.iast pc' hf hp hm ha (ix_iI (by omega)) (by rw [aI_len]; omega) (by rw [aI, row_set (g := fun x => Value.int (iI x)) hz]; rw [← hs] at kk; exact kk)
theorem Rg.lst {a n : Nat} {f : Int → Int} {z v : Int} (pc' : Nat) (hf : fetch M pc = some .lastore) (hp : pc + 1 = pc') (hm : mem[a]? = some (.inl (.long, aL n f))) (ha : 2 ≤ a) (hs : mem.set a (.inl (.long, aL n (up1 f z v))) = mem1) (hz : 0 ≤ z ∧ z < n) (hn : n ≤ 100) (kk : Rg false d M n0 pc' L st mem1 o mem') : Rg false d M n0 pc L (.long (lI v) :: .int (iI z) :: .ref a :: st) mem o mem' :=
  Rg.last pc' hf hp hm ha (ix_iI (by omega)) (by rw [aL_len]; omega) (by rw [aL, row_set (g := fun x => Value.long (lI x)) hz]; rw [← hs] at kk; exact kk)
theorem Rg.zst {a n : Nat} {f : Int → Prop} {z : Int} {v : Prop} (pc' : Nat) (hf : fetch M pc = some .bastore) (hp : pc + 1 = pc') (hm : mem[a]? = some (.inl (.boolean, aZ n f))) (ha : 2 ≤ a) (hs : mem.set a (.inl (.boolean, aZ n (up1 f z v))) = mem1) (hz : 0 ≤ z ∧ z < n) (hn : n ≤ 100) (kk : Rg false d M n0 pc' L st mem1 o mem') : Rg false d M n0 pc L (.int (bP v) :: .int (iI z) :: .ref a :: st) mem o mem' :=
  Rg.zast pc' hf hp hm ha (ix_iI (by omega)) (by rw [aZ_len]; omega) (by rw [narrow_bP, aZ, row_set (g := fun x => Value.int (bP x)) hz]; rw [← hs] at kk; exact kk)
theorem Rg.put {i a ci j lk : Nat} {fs : List Value} {v : Value} (pc' : Nat) (hf : fetch M pc = some (.putfield i)) (hp : pc + 3 = pc') (hr : rF (mH M) i = some (ci, j, lk)) (hm : mem[a]? = some (.inr (ci, fs))) (ha : 2 ≤ a) (hj : j < fs.length) (hk : lk = 0 ∨ lk = 2 ∨ (lk = 1 ∧ mI M = true)) (ht : (tys[ci]?.map (fun t => okT (t j) v)) = some true) (hs : mem.set a (.inr (ci, fs.set j v)) = mem1) (k : Rg false d M n0 pc' L st mem1 o mem') : Rg false d M n0 pc L (v :: .ref a :: st) mem o mem' :=
  Rg.putf pc' hf hp hr hm ha hj hk ht (by rw [hs]; exact k)
theorem Rg.lenA {a n : Nat} {ty : FieldType} {vs : List Value} (pc' : Nat) (hf : fetch M pc = some .arraylength) (hp : pc + 1 = pc') (hm : mem[a]? = some (.inl (ty, vs))) (hl : vs.length = n) (kk : Rg φ d M n0 pc' L (.int (iI n) :: st) mem o mem') : Rg φ d M n0 pc L (.ref a :: st) mem o mem' := by
  refine Rg.alen pc' hf hp hm ?_
  rw [hl, show n.toInt32 = iI n from (Int32.ofInt_eq_ofNat (n := n)).symm]
  exact kk
theorem Rg.retI {a b : Int} (hf : fetch M pc = some .ireturn) (hr : mR M = some .int) (h : a = b) (hm : mem = mem') : Rg φ d M n0 pc L [.int (iI a)] mem (.inl (some (.int (iI b)))) mem' := by
  subst h
  subst hm
  exact Rg.ret hf (by dsimp only [one]; rw [hr])
theorem Rg.retL {a b : Int} (hf : fetch M pc = some .lreturn) (hr : mR M = some .long) (h : a = b) (hm : mem = mem') : Rg φ d M n0 pc L [.long (lI a)] mem (.inl (some (.long (lI b)))) mem' := by
  subst h
  subst hm
  exact Rg.ret hf (by dsimp only [one]; rw [hr])
theorem Rg.retV (hf : fetch M pc = some .return_) (hr : mR M = none) (hm : mem = mem') : Rg φ d M n0 pc L [] mem (.inl none) mem' := by
  subst hm
  exact Rg.ret hf (by dsimp only [one]; rw [hr])
theorem Rg.retP {A B : Prop} (hf : fetch M pc = some .ireturn) (hr : mR M = some .boolean) (h : A ↔ B) (hm : mem = mem') : Rg φ d M n0 pc L [.int (bP A)] mem (.inl (some (.int (bP B)))) mem' := by
  subst hm
  rw [bP_c h]
  refine Rg.ret hf ?_
  dsimp only [one]
  rw [hr]
  dsimp only
  rw [if_pos (bP_01 B)]
theorem Rg.ret1 {B : Prop} (hf : fetch M pc = some .ireturn) (hr : mR M = some .boolean) (h : B) (hm : mem = mem') : Rg φ d M n0 pc L [.int (iI 1)] mem (.inl (some (.int (bP B)))) mem' := by
  rw [← bP_t h]
  exact Rg.retP hf hr Iff.rfl hm
theorem Rg.ret0 {B : Prop} (hf : fetch M pc = some .ireturn) (hr : mR M = some .boolean) (h : ¬ B) (hm : mem = mem') : Rg φ d M n0 pc L [.int (iI 0)] mem (.inl (some (.int (bP B)))) mem' := by
  rw [← bP_f h]
  exact Rg.retP hf hr Iff.rfl hm
theorem Rg.cP1 {B : Prop} (pc' : Nat) (hf : fetch M pc = some (.iconst 1)) (hp : pc + 1 = pc') (h : B) (k : Rg φ d M n0 pc' L (.int (bP B) :: st) mem o mem') : Rg φ d M n0 pc L st mem o mem' := by
  subst hp
  rw [bP_t h] at k
  exact Rg.step _ hf rfl (fun _ => rfl) k
theorem Rg.cP0 {B : Prop} (pc' : Nat) (hf : fetch M pc = some (.iconst 0)) (hp : pc + 1 = pc') (h : ¬ B) (k : Rg φ d M n0 pc' L (.int (bP B) :: st) mem o mem') : Rg φ d M n0 pc L st mem o mem' := by
  subst hp
  rw [bP_f h] at k
  exact Rg.step _ hf rfl (fun _ => rfl) k
end IRULES
