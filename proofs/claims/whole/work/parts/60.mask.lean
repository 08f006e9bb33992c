/-! Masks: a word of bits as a property of whole numbers. -/
noncomputable def mkB (F : Int → Prop) : Nat → BitVec 32
  | 0 => 0#32
  | n + 1 => mkB F n ||| (@ite _ (F n) (Classical.propDecidable _) (1#32 <<< n) 0#32)
noncomputable def mk (F : Int → Prop) : Int32 := Int32.ofBitVec (mkB F 24)
theorem mkB_get (F : Int → Prop) : ∀ (n : Nat) (i : Nat), n ≤ 32 → i < 32 → ((mkB F n).getLsbD i = true ↔ i < n ∧ F (i : Int)) := by
  intro n
  induction n with
  | zero => intro i _ _; simp [mkB]
  | succ n ih =>
    intro i hn hi
    rw [mkB, BitVec.getLsbD_or, Bool.or_eq_true, ih i (by omega) hi]
    by_cases hF : F n
    · rw [if_pos hF, BitVec.getLsbD_shiftLeft]
      constructor
      · rintro (⟨h1, h2⟩ | h)
        · exact ⟨by omega, h2⟩
        · simp at h
          have e : i = n := by omega
          subst e
          exact ⟨by omega, hF⟩
      · rintro ⟨h1, h2⟩
        by_cases e : i = n
        · refine Or.inr ?_
          subst e
          simp [hi]
        · exact Or.inl ⟨by omega, h2⟩
    · rw [if_neg hF]
      constructor
      · rintro (⟨h1, h2⟩ | h)
        · exact ⟨by omega, h2⟩
        · simp at h
      · rintro ⟨h1, h2⟩
        by_cases e : i = n
        · subst e; exact absurd h2 hF
        · exact Or.inl ⟨by omega, h2⟩
/-- a bit of a word -/
def bit (x : Int32) (i : Int) : Prop := x.toBitVec.getLsbD i.toNat = true
theorem bit_mk {F : Int → Prop} {i : Int} (h : 0 ≤ i ∧ i < 32) : bit (mk F) i ↔ i < 24 ∧ F i := by
  unfold bit mk
  rw [show (Int32.ofBitVec (mkB F 24)).toBitVec = mkB F 24 from rfl, mkB_get F 24 i.toNat (by omega) (by omega), Int.toNat_of_nonneg h.1]
  constructor <;> rintro ⟨h1, h2⟩ <;> exact ⟨by omega, h2⟩
theorem bit_ext {x y : Int32} (h : ∀ i, 0 ≤ i → i < 32 → (bit x i ↔ bit y i)) : x = y := by
  have : x.toBitVec = y.toBitVec := by
    apply BitVec.eq_of_getLsbD_eq
    intro i hi
    have := h i (by omega) (by omega)
    unfold bit at this
    rw [Int.toNat_natCast] at this
    exact Bool.eq_iff_iff.mpr this
  exact Int32.toBitVec_inj.mp this
theorem bit_or (x y : Int32) (i : Int) : bit (x ||| y) i ↔ bit x i ∨ bit y i := by
  unfold bit
  rw [Int32.toBitVec_or, BitVec.getLsbD_or, Bool.or_eq_true]
theorem bit_and (x y : Int32) (i : Int) : bit (x &&& y) i ↔ bit x i ∧ bit y i := by
  unfold bit
  rw [Int32.toBitVec_and, BitVec.getLsbD_and, Bool.and_eq_true]
theorem bit_xor (x y : Int32) (i : Int) : bit (x ^^^ y) i ↔ (bit x i ↔ ¬ bit y i) := by
  unfold bit
  rw [Int32.toBitVec_xor, BitVec.getLsbD_xor]
  cases x.toBitVec.getLsbD i.toNat <;> cases y.toBitVec.getLsbD i.toNat <;> simp
theorem bit_m1 {i : Int} (h : 0 ≤ i ∧ i < 32) : bit (-1) i := by
  unfold bit
  have : (-1 : Int32).toBitVec = BitVec.allOnes 32 := by decide
  rw [this, BitVec.getLsbD_allOnes]
  exact decide_eq_true (by omega)
theorem bit_0 (i : Int) : ¬ bit 0 i := by
  unfold bit
  rw [show (0 : Int32).toBitVec = 0#32 from rfl, BitVec.getLsbD_zero]
  simp
theorem mk_or (F G : Int → Prop) : mk F ||| mk G = mk (fun i => F i ∨ G i) := bit_ext (fun i h1 h2 => by
  rw [bit_or, bit_mk ⟨h1, h2⟩, bit_mk ⟨h1, h2⟩, bit_mk ⟨h1, h2⟩]
  constructor
  · rintro (⟨a, b⟩ | ⟨a, b⟩)
    · exact ⟨a, Or.inl b⟩
    · exact ⟨a, Or.inr b⟩
  · rintro ⟨a, b | b⟩
    · exact Or.inl ⟨a, b⟩
    · exact Or.inr ⟨a, b⟩)
theorem mk_and (F G : Int → Prop) : mk F &&& mk G = mk (fun i => F i ∧ G i) := bit_ext (fun i h1 h2 => by
  rw [bit_and, bit_mk ⟨h1, h2⟩, bit_mk ⟨h1, h2⟩, bit_mk ⟨h1, h2⟩]
  constructor
  · rintro ⟨⟨a, b⟩, ⟨c, d⟩⟩
    exact ⟨a, b, d⟩
  · rintro ⟨a, b, d⟩
    exact ⟨⟨a, b⟩, ⟨a, d⟩⟩)
theorem mk_nand (F G : Int → Prop) : mk F &&& (mk G ^^^ -1) = mk (fun i => F i ∧ ¬ G i) := bit_ext (fun i h1 h2 => by
  rw [bit_and, bit_xor, bit_mk ⟨h1, h2⟩, bit_mk ⟨h1, h2⟩, bit_mk ⟨h1, h2⟩]
  have b1 := bit_m1 ⟨h1, h2⟩
  constructor
  · rintro ⟨⟨a, b⟩, c⟩
    exact ⟨a, b, fun z => c.mp ⟨a, z⟩ b1⟩
  · rintro ⟨a, b, c⟩
    exact ⟨⟨a, b⟩, ⟨fun z => absurd z.2 c, fun z => absurd b1 z⟩⟩)
theorem mk_xor (F G : Int → Prop) : mk F ^^^ mk G = mk (fun i => F i ↔ ¬ G i) := bit_ext (fun i h1 h2 => by
  rw [bit_xor, bit_mk ⟨h1, h2⟩, bit_mk ⟨h1, h2⟩, bit_mk ⟨h1, h2⟩]
  by_cases a : i < 24
  · constructor
    · intro h
      exact ⟨a, fun z y => h.mp ⟨a, z⟩ ⟨a, y⟩, fun z => (h.mpr (fun y => z y.2)).2⟩
    · rintro ⟨_, h⟩
      exact ⟨fun z y => h.mp z.2 y.2, fun z => ⟨a, h.mpr (fun y => z ⟨a, y⟩)⟩⟩
  · constructor
    · intro h
      exact absurd (h.mpr (fun y => a y.1)).1 a
    · rintro ⟨z, _⟩
      exact absurd z a)
theorem mk_c {F G : Int → Prop} (h : ∀ i, 0 ≤ i → i < 24 → (F i ↔ G i)) : mk F = mk G := bit_ext (fun i h1 h2 => by
  rw [bit_mk ⟨h1, h2⟩, bit_mk ⟨h1, h2⟩]
  constructor
  · rintro ⟨a, b⟩; exact ⟨a, (h i h1 a).mp b⟩
  · rintro ⟨a, b⟩; exact ⟨a, (h i h1 a).mpr b⟩)
theorem mk_eq {F G : Int → Prop} : mk F = mk G ↔ ∀ i, 0 ≤ i → i < 24 → (F i ↔ G i) := ⟨fun h i h1 h2 => by
  have a := bit_mk (F := F) (i := i) ⟨h1, by omega⟩
  have b := bit_mk (F := G) (i := i) ⟨h1, by omega⟩
  rw [h] at a
  exact ⟨fun z => (b.mp (a.mpr ⟨h2, z⟩)).2, fun z => (a.mp (b.mpr ⟨h2, z⟩)).2⟩, mk_c⟩
theorem mk_zero : mk (fun _ => False) = 0 := bit_ext (fun i h1 h2 => by
  rw [bit_mk ⟨h1, h2⟩]
  exact ⟨fun z => z.2.elim, fun z => absurd z (bit_0 i)⟩)
theorem mk_eq0 {F : Int → Prop} : mk F = 0 ↔ ∀ i, 0 ≤ i → i < 24 → ¬ F i := by
  rw [← mk_zero, mk_eq]
  exact ⟨fun h i h1 h2 z => (h i h1 h2).mp z, fun h i h1 h2 => ⟨h i h1 h2, False.elim⟩⟩
theorem mk_bit {f : Int} (h : 0 ≤ f ∧ f < 24) : (1 : Int32) <<< iI f = mk (fun i => i = f) := bit_ext (fun i h1 h2 => by
  rw [bit_mk ⟨h1, h2⟩]
  have key : ∀ f : Fin 24, ∀ i : Fin 32, ((1 : Int32) <<< Int32.ofInt (f.val : Int)).toBitVec.getLsbD i.val = decide (i.val = f.val) := by decide +kernel
  have k1 := key ⟨f.toNat, by omega⟩ ⟨i.toNat, by omega⟩
  dsimp only at k1
  rw [Int.toNat_of_nonneg h.1] at k1
  unfold bit
  rw [k1, decide_eq_true_eq]
  omega)
theorem sar_bit (x : Int32) {s : Int} (h : 0 ≤ s ∧ s < 24) : ¬ (x >>> iI s) &&& 1 = 0 ↔ bit x s := by
  have e : (x >>> iI s) = Int32.ofBitVec (x.toBitVec.sshiftRight s.toNat) := by
    have : ((iI s).toBitVec.smod 32).toNat = s.toNat := by
      have key : ∀ f : Fin 24, ((Int32.ofInt (f.val : Int)).toBitVec.smod 32).toNat = f.val := by decide +kernel
      have k1 := key ⟨s.toNat, by omega⟩
      dsimp only at k1
      rw [Int.toNat_of_nonneg h.1] at k1
      exact k1
    rw [← Int32.toBitVec_inj, Int32.toBitVec_shiftRight]
    show x.toBitVec.sshiftRight' _ = x.toBitVec.sshiftRight _
    rw [BitVec.sshiftRight', this]
  have b1 : bit ((x >>> iI s) &&& 1) 0 ↔ bit x s := by
    rw [bit_and, e]
    unfold bit
    show ((x.toBitVec.sshiftRight s.toNat).getLsbD 0 = true ∧ _) ↔ _
    rw [BitVec.getLsbD_sshiftRight]
    have h1 : (1 : Int32).toBitVec.getLsbD (0 : Int).toNat = true := by decide
    rw [h1]
    simp
    omega
  rw [← b1]
  constructor
  · intro hne
    refine Classical.byContradiction (fun hb => hne (bit_ext (fun i h1 h2 => ?_)))
    by_cases hi : i = 0
    · rw [hi]
      exact ⟨fun z => absurd z hb, fun z => absurd z (bit_0 0)⟩
    · refine ⟨fun z => ?_, fun z => absurd z (bit_0 i)⟩
      rw [bit_and] at z
      have key : ∀ i : Fin 32, (1 : Int32).toBitVec.getLsbD i.val = decide (i.val = 0) := by decide +kernel
      have k1 := key ⟨i.toNat, by omega⟩
      have z2 := z.2
      unfold bit at z2
      dsimp only at k1
      rw [k1, decide_eq_true_eq] at z2
      omega
  · intro hb z
    rw [z] at hb
    exact bit_0 0 hb
theorem mk_has {F : Int → Prop} {s : Int} (h : 0 ≤ s ∧ s < 24) : ¬ (mk F >>> iI s) &&& 1 = 0 ↔ F s := by
  rw [sar_bit _ h, bit_mk ⟨h.1, by omega⟩]
  exact ⟨fun z => z.2, fun z => ⟨h.2, z⟩⟩
theorem sar_zero {F : Int → Prop} {s : Int} (h : 0 ≤ s ∧ s < 24) : mk F >>> iI s = 0 ↔ ∀ i, s ≤ i → i < 24 → ¬ F i := by
  have e : (mk F >>> iI s) = Int32.ofBitVec ((mk F).toBitVec.sshiftRight s.toNat) := by
    have : ((iI s).toBitVec.smod 32).toNat = s.toNat := by
      have key : ∀ f : Fin 24, ((Int32.ofInt (f.val : Int)).toBitVec.smod 32).toNat = f.val := by decide +kernel
      have k1 := key ⟨s.toNat, by omega⟩
      dsimp only at k1
      rw [Int.toNat_of_nonneg h.1] at k1
      exact k1
    rw [← Int32.toBitVec_inj, Int32.toBitVec_shiftRight]
    show (mk F).toBitVec.sshiftRight' _ = (mk F).toBitVec.sshiftRight _
    rw [BitVec.sshiftRight', this]
  have hg : ∀ i : Int, 0 ≤ i → i < 32 → (bit (mk F >>> iI s) i ↔ s + i < 24 ∧ F (s + i)) := fun i h1 h2 => by
    rw [e]
    unfold bit
    show ((mk F).toBitVec.sshiftRight s.toNat).getLsbD i.toNat = true ↔ _
    rw [BitVec.getLsbD_sshiftRight]
    have hm : (mk F).toBitVec.msb = false := by
      have := bit_mk (F := F) (i := 31) ⟨by omega, by omega⟩
      rw [BitVec.msb_eq_getLsbD_last]
      unfold bit at this
      cases hh : (mk F).toBitVec.getLsbD (32 - 1) with
      | false => rfl
      | true => exact absurd (this.mp hh).1 (by omega)
    rw [hm]
    by_cases h3 : s + i < 32
    · have := bit_mk (F := F) (i := s + i) ⟨by omega, h3⟩
      unfold bit at this
      rw [show (s + i).toNat = s.toNat + i.toNat by omega] at this
      rw [if_pos (by omega), Bool.and_eq_true]
      rw [← this]
      exact ⟨fun z => z.2, fun z => ⟨by simp; omega, z⟩⟩
    · rw [if_neg (by omega)]
      simp
      intro z
      omega
  constructor
  · intro hz i h1 h2 hF
    have := (hg (i - s) (by omega) (by omega)).mpr ⟨by omega, by rw [show s + (i - s) = i by omega]; exact hF⟩
    rw [hz] at this
    exact bit_0 _ this
  · intro h0
    refine bit_ext (fun i h1 h2 => ?_)
    rw [hg i h1 h2]
    exact ⟨fun z => absurd z.2 (h0 (s + i) (by omega) z.1), fun z => absurd z (bit_0 i)⟩

theorem sh31 {f : Int} (h : 0 ≤ f ∧ f < 24) : iI f &&& 31 = iI f := by
  have key : ∀ f : Fin 24, Int32.ofInt (f.val : Int) &&& 31 = Int32.ofInt (f.val : Int) := by decide +kernel
  have k1 := key ⟨f.toNat, by omega⟩
  dsimp only at k1
  rw [Int.toNat_of_nonneg h.1] at k1
  exact k1
theorem and_par {p : Int} (h : 0 ≤ p ∧ p < 2147483648) : iI p &&& iI 1 = iI (p % 2) := by
  refine bit_ext (fun i h1 h2 => ?_)
  rw [bit_and]
  have k1 : ∀ i : Fin 32, (iI 1).toBitVec.getLsbD i.val = decide (i.val = 0) := by decide +kernel
  have k2 := k1 ⟨i.toNat, by omega⟩
  dsimp only at k2
  have e1 : bit (iI 1) i ↔ i = 0 := by
    unfold bit
    rw [k2, decide_eq_true_eq]
    omega
  rw [e1]
  have hp : bit (iI p) 0 ↔ p % 2 = 1 := by
    have e2 : iI p = Int32.ofNat p.toNat := by rw [← Int32.ofInt_eq_ofNat, Int.toNat_of_nonneg h.1]
    unfold bit
    rw [e2]
    show (BitVec.ofNat 32 p.toNat).getLsbD 0 = true ↔ _
    rw [BitVec.getLsbD_ofNat]
    simp [Nat.testBit_zero]
    omega
  rcases Int.emod_two_eq p with hq | hq
  · rw [hq]
    refine ⟨fun z => ?_, fun z => absurd z (bit_0 i)⟩
    rw [z.2, hp] at z
    omega
  · rw [hq, e1]
    exact ⟨fun z => z.2, fun z => ⟨by rw [z, hp]; exact hq, z⟩⟩
noncomputable def nk (G : Int → Prop) : Int32 := mk G ^^^ -1
noncomputable def sk (F : Int → Prop) (s : Int) : Int32 := mk F >>> iI s
noncomputable def tk (F : Int → Prop) (s : Int) : Int32 := sk F s &&& 1
noncomputable def aK (n : Nat) (f : Int → Int → Prop) : List Value := (List.range n).map (fun k : Nat => .int (mk (f (k : Int))))
theorem aK_len (n : Nat) (f : Int → Int → Prop) : (aK n f).length = n := by simp [aK]
theorem aK_c {n : Nat} {f g : Int → Int → Prop} (h : ∀ z, 0 ≤ z → z < n → ∀ i, 0 ≤ i → i < 24 → (f z i ↔ g z i)) : aK n f = aK n g := by
  unfold aK
  exact List.map_congr_left (fun k hk => by rw [mk_c (h k (by omega) (by have := List.mem_range.mp hk; omega))])
section MASK
variable {φ : Bool} {d : Nat} {M : MI} {n0 pc : Nat} {L : AL} {st : List Value} {mem mem1 mem' : AM} {o : Option Value ⊕ Nat} {A B F G : Int → Prop}
theorem Rg.orK (pc' : Nat) (hf : fetch M pc = some .ior) (hp : pc + 1 = pc') (k : Rg φ d M n0 pc' L (.int (mk (fun i => A i ∨ B i)) :: st) mem o mem') : Rg φ d M n0 pc L (.int (mk B) :: .int (mk A) :: st) mem o mem' := by
  subst hp
  rw [← mk_or] at k
  exact Rg.step _ hf rfl (fun _ => rfl) k
theorem Rg.andK (pc' : Nat) (hf : fetch M pc = some .iand) (hp : pc + 1 = pc') (k : Rg φ d M n0 pc' L (.int (mk (fun i => A i ∧ B i)) :: st) mem o mem') : Rg φ d M n0 pc L (.int (mk B) :: .int (mk A) :: st) mem o mem' := by
  subst hp
  rw [← mk_and] at k
  exact Rg.step _ hf rfl (fun _ => rfl) k
theorem Rg.xorK (pc' : Nat) (hf : fetch M pc = some .ixor) (hp : pc + 1 = pc') (k : Rg φ d M n0 pc' L (.int (mk (fun i => A i ↔ ¬ B i)) :: st) mem o mem') : Rg φ d M n0 pc L (.int (mk B) :: .int (mk A) :: st) mem o mem' := by
  subst hp
  rw [← mk_xor] at k
  exact Rg.step _ hf rfl (fun _ => rfl) k
theorem Rg.notK (pc' : Nat) (hf : fetch M pc = some .ixor) (hp : pc + 1 = pc') (k : Rg φ d M n0 pc' L (.int (nk G) :: st) mem o mem') : Rg φ d M n0 pc L (.int (iI (-1)) :: .int (mk G) :: st) mem o mem' := by
  subst hp
  exact Rg.step _ hf rfl (fun _ => rfl) k
theorem Rg.andN (pc' : Nat) (hf : fetch M pc = some .iand) (hp : pc + 1 = pc') (k : Rg φ d M n0 pc' L (.int (mk (fun i => F i ∧ ¬ G i)) :: st) mem o mem') : Rg φ d M n0 pc L (.int (nk G) :: .int (mk F) :: st) mem o mem' := by
  subst hp
  rw [← mk_nand] at k
  exact Rg.step _ hf rfl (fun _ => rfl) k
theorem Rg.shlK {f : Int} (pc' : Nat) (hf : fetch M pc = some .ishl) (hp : pc + 1 = pc') (hb : 0 ≤ f ∧ f < 24) (k : Rg φ d M n0 pc' L (.int (mk (fun i => i = f)) :: st) mem o mem') : Rg φ d M n0 pc L (.int (iI f) :: .int (iI 1) :: st) mem o mem' := by
  subst hp
  rw [← mk_bit hb, ← sh31 hb] at k
  exact Rg.step _ hf rfl (fun _ => rfl) k
theorem Rg.shrK {s : Int} (pc' : Nat) (hf : fetch M pc = some .ishr) (hp : pc + 1 = pc') (hb : 0 ≤ s ∧ s < 24) (k : Rg φ d M n0 pc' L (.int (sk F s) :: st) mem o mem') : Rg φ d M n0 pc L (.int (iI s) :: .int (mk F) :: st) mem o mem' := by
  subst hp
  unfold sk at k
  rw [← sh31 hb] at k
  exact Rg.step _ hf rfl (fun _ => rfl) k
theorem Rg.and1 {s : Int} (pc' : Nat) (hf : fetch M pc = some .iand) (hp : pc + 1 = pc') (k : Rg φ d M n0 pc' L (.int (tk F s) :: st) mem o mem') : Rg φ d M n0 pc L (.int (iI 1) :: .int (sk F s) :: st) mem o mem' := by
  subst hp
  exact Rg.step _ hf rfl (fun _ => rfl) k
theorem Rg.par {p : Int} (pc' : Nat) (hf : fetch M pc = some .iand) (hp : pc + 1 = pc') (hb : 0 ≤ p ∧ p < 2147483648) (k : Rg φ d M n0 pc' L (.int (iI (p % 2)) :: st) mem o mem') : Rg φ d M n0 pc L (.int (iI 1) :: .int (iI p) :: st) mem o mem' := by
  subst hp
  rw [← and_par hb] at k
  exact Rg.step _ hf rfl (fun _ => rfl) k
theorem Rg.cK0 (pc' : Nat) (hf : fetch M pc = some (.iconst 0)) (hp : pc + 1 = pc') (k : Rg φ d M n0 pc' L (.int (mk (fun _ => False)) :: st) mem o mem') : Rg φ d M n0 pc L st mem o mem' := by
  subst hp
  rw [mk_zero] at k
  exact Rg.step _ hf rfl (fun _ => rfl) k
theorem mk_ne0 : ¬ mk F = 0 ↔ ∃ i, 0 ≤ i ∧ i < 24 ∧ F i := by
  rw [mk_eq0]
  exact ⟨fun z => Classical.byContradiction (fun y => z (fun i h1 h2 h3 => y ⟨i, h1, h2, h3⟩)), fun ⟨i, h1, h2, h3⟩ z => z i h1 h2 h3⟩
theorem Rg.ifeqK {off : Int} (t pc' : Nat) (hf : fetch M pc = some (.ifCond .eq off)) (ht : br pc off = some t) (hp : pc + 3 = pc') (ky : (∀ i, 0 ≤ i → i < 24 → ¬ F i) → Rg φ d M n0 t L st mem o mem') (kn : (∃ i, 0 ≤ i ∧ i < 24 ∧ F i) → Rg φ d M n0 pc' L st mem o mem') : Rg φ d M n0 pc L (.int (mk F) :: st) mem o mem' :=
  Rg.ifeq t pc' hf ht hp (fun z => ky (mk_eq0.mp z)) (fun z => kn (mk_ne0.mp z))
theorem Rg.ifneK {off : Int} (t pc' : Nat) (hf : fetch M pc = some (.ifCond .ne off)) (ht : br pc off = some t) (hp : pc + 3 = pc') (ky : (∃ i, 0 ≤ i ∧ i < 24 ∧ F i) → Rg φ d M n0 t L st mem o mem') (kn : (∀ i, 0 ≤ i → i < 24 → ¬ F i) → Rg φ d M n0 pc' L st mem o mem') : Rg φ d M n0 pc L (.int (mk F) :: st) mem o mem' :=
  Rg.ifne t pc' hf ht hp (fun z => ky (mk_ne0.mp z)) (fun z => kn (mk_eq0.mp z))
theorem Rg.ifeqT {s off : Int} (t pc' : Nat) (hf : fetch M pc = some (.ifCond .eq off)) (ht : br pc off = some t) (hp : pc + 3 = pc') (hb : 0 ≤ s ∧ s < 24) (ky : ¬ F s → Rg φ d M n0 t L st mem o mem') (kn : F s → Rg φ d M n0 pc' L st mem o mem') : Rg φ d M n0 pc L (.int (tk F s) :: st) mem o mem' :=
  Rg.ifeq t pc' hf ht hp (fun z => ky (fun y => (mk_has hb).mpr y z)) (fun z => kn ((mk_has hb).mp z))
theorem Rg.ifneT {s off : Int} (t pc' : Nat) (hf : fetch M pc = some (.ifCond .ne off)) (ht : br pc off = some t) (hp : pc + 3 = pc') (hb : 0 ≤ s ∧ s < 24) (ky : F s → Rg φ d M n0 t L st mem o mem') (kn : ¬ F s → Rg φ d M n0 pc' L st mem o mem') : Rg φ d M n0 pc L (.int (tk F s) :: st) mem o mem' :=
  Rg.ifne t pc' hf ht hp (fun z => ky ((mk_has hb).mp z)) (fun z => kn (fun y => (mk_has hb).mpr y z))
theorem Rg.ifeqS {s off : Int} (t pc' : Nat) (hf : fetch M pc = some (.ifCond .eq off)) (ht : br pc off = some t) (hp : pc + 3 = pc') (hb : 0 ≤ s ∧ s < 24) (ky : (∀ i, s ≤ i → i < 24 → ¬ F i) → Rg φ d M n0 t L st mem o mem') (kn : ¬ (∀ i, s ≤ i → i < 24 → ¬ F i) → Rg φ d M n0 pc' L st mem o mem') : Rg φ d M n0 pc L (.int (sk F s) :: st) mem o mem' :=
  Rg.ifeq t pc' hf ht hp (fun z => ky ((sar_zero hb).mp z)) (fun z => kn (fun y => z ((sar_zero hb).mpr y)))
theorem Rg.ifneS {s off : Int} (t pc' : Nat) (hf : fetch M pc = some (.ifCond .ne off)) (ht : br pc off = some t) (hp : pc + 3 = pc') (hb : 0 ≤ s ∧ s < 24) (ky : ¬ (∀ i, s ≤ i → i < 24 → ¬ F i) → Rg φ d M n0 t L st mem o mem') (kn : (∀ i, s ≤ i → i < 24 → ¬ F i) → Rg φ d M n0 pc' L st mem o mem') : Rg φ d M n0 pc L (.int (sk F s) :: st) mem o mem' :=
  Rg.ifne t pc' hf ht hp (fun z => ky (fun y => z ((sar_zero hb).mpr y))) (fun z => kn ((sar_zero hb).mp z))
theorem Rg.iceqK {off : Int} (t pc' : Nat) (hf : fetch M pc = some (.if_icmp .eq off)) (ht : br pc off = some t) (hp : pc + 3 = pc') (ky : (∀ i, 0 ≤ i → i < 24 → (A i ↔ B i)) → Rg φ d M n0 t L st mem o mem') (kn : ¬ (∀ i, 0 ≤ i → i < 24 → (A i ↔ B i)) → Rg φ d M n0 pc' L st mem o mem') : Rg φ d M n0 pc L (.int (mk B) :: .int (mk A) :: st) mem o mem' :=
  Rg.iceq t pc' hf ht hp (fun z => ky (mk_eq.mp z)) (fun z => kn (fun y => z (mk_eq.mpr y)))
theorem Rg.icneK {off : Int} (t pc' : Nat) (hf : fetch M pc = some (.if_icmp .ne off)) (ht : br pc off = some t) (hp : pc + 3 = pc') (ky : ¬ (∀ i, 0 ≤ i → i < 24 → (A i ↔ B i)) → Rg φ d M n0 t L st mem o mem') (kn : (∀ i, 0 ≤ i → i < 24 → (A i ↔ B i)) → Rg φ d M n0 pc' L st mem o mem') : Rg φ d M n0 pc L (.int (mk B) :: .int (mk A) :: st) mem o mem' :=
  Rg.icne t pc' hf ht hp (fun z => ky (fun y => z (mk_eq.mpr y))) (fun z => kn (mk_eq.mp z))
theorem Rg.kld {a n : Nat} {f : Int → Int → Prop} {z : Int} (pc' : Nat) (hf : fetch M pc = some .iaload) (hp : pc + 1 = pc') (hm : mem[a]? = some (.inl (.int, aK n f))) (hz : 0 ≤ z ∧ z < n) (hn : n ≤ 100) (kk : Rg φ d M n0 pc' L (.int (mk (f z)) :: st) mem o mem') : Rg φ d M n0 pc L (.int (iI z) :: .ref a :: st) mem o mem' :=
  Rg.iald pc' hf hp hm (ix_iI (by omega)) (row_get (g := fun F => Value.int (mk F)) hz) kk
theorem Rg.kst {a n : Nat} {f : Int → Int → Prop} {z : Int} {v : Int → Prop} (pc' : Nat) (hf : fetch M pc = some .iastore) (hp : pc + 1 = pc') (hm : mem[a]? = some (.inl (.int, aK n f))) (ha : 2 ≤ a) (hs : mem.set a (.inl (.int, aK n (up1 f z v))) = mem1) (hz : 0 ≤ z ∧ z < n) (hn : n ≤ 100) (kk : Rg false d M n0 pc' L st mem1 o mem') : Rg false d M n0 pc L (.int (mk v) :: .int (iI z) :: .ref a :: st) mem o mem' :=
  Rg.iast pc' hf hp hm ha (ix_iI (by omega)) (by rw [aK_len]; omega) (by rw [aK, row_set (g := fun F => Value.int (mk F)) hz]; rw [← hs] at kk; exact kk)
end MASK
