/-! A rule an instruction. -/
/-- an index -/
def ix (j : Int32) : Option Nat := if j < 0 then none else some j.toNatClampNeg
theorem ix_no {j : Int32} {k : Nat} (h : ix j = some k) : ¬ j < 0 ∧ j.toNatClampNeg = k := by
  unfold ix at h
  split at h
  · cases h
  · rename_i hj
    exact ⟨hj, Option.some.inj h⟩
theorem ix_nI {k : Nat} (h : k < 2 ^ 31) : ix (nI k) = some k := by
  unfold ix
  have h1 : (nI k).toInt = k := by
    unfold nI
    rw [Int32.toInt_ofNat_of_lt h]
  have h2 : ¬ nI k < 0 := by
    rw [Int32.lt_iff_toInt_lt, h1]
    simp
  rw [if_neg h2]
  congr 1
  show (nI k).toInt.toNat = k
  rw [h1]
  simp
section RULES
variable {φ : Bool} {d : Nat} {M : MI} {n0 pc : Nat} {L : AL} {st : List Value} {mem : AM} {o : Option Value ⊕ Nat} {mem' : AM}
theorem Rg.getf {i a ci j lk : Nat} {fs : List Value} {v : Value} (pc' : Nat) (hf : fetch M pc = some (.getfield i)) (hp : pc + 3 = pc') (hr : rF (mH M) i = some (ci, j, lk)) (hm : mem[a]? = some (.inr (ci, fs))) (hv : fs[j]? = some v) (k : Rg φ d M n0 pc' L (v :: st) mem o mem') : Rg φ d M n0 pc L (.ref a :: st) mem o mem' := by
  subst hp
  refine Rg.step _ hf ?_ (fun _ => rfl) k
  dsimp only [one]
  rw [hr]
  dsimp only
  rw [hm]
  dsimp only
  rw [if_pos rfl, hv]
  rfl
theorem Rg.putf {i a ci j lk : Nat} {fs : List Value} {v : Value} (pc' : Nat) (hf : fetch M pc = some (.putfield i)) (hp : pc + 3 = pc') (hr : rF (mH M) i = some (ci, j, lk)) (hm : mem[a]? = some (.inr (ci, fs))) (ha : 2 ≤ a) (hj : j < fs.length) (hk : lk = 0 ∨ lk = 2 ∨ (lk = 1 ∧ mI M = true)) (ht : (tys[ci]?.map (fun t => okT (t j) v)) = some true) (k : Rg false d M n0 pc' L st (mem.set a (.inr (ci, fs.set j v))) o mem') : Rg false d M n0 pc L (v :: .ref a :: st) mem o mem' := by
  subst hp
  refine Rg.step _ hf ?_ (fun h => by cases h) k
  dsimp only [one]
  rw [hr]
  dsimp only
  rw [hm]
  dsimp only
  rw [if_pos ⟨rfl, ha, hj, hk, ht⟩]
  rfl
theorem Rg.iald {a k : Nat} {j : Int32} {vs : List Value} {v : Value} (pc' : Nat) (hf : fetch M pc = some .iaload) (hp : pc + 1 = pc') (hm : mem[a]? = some (.inl (.int, vs))) (hj : ix j = some k) (hv : vs[k]? = some v) (kk : Rg φ d M n0 pc' L (v :: st) mem o mem') : Rg φ d M n0 pc L (.int j :: .ref a :: st) mem o mem' := by
  subst hp
  obtain ⟨h1, h2⟩ := ix_no hj
  refine Rg.step _ hf ?_ (fun _ => rfl) kk
  dsimp only [one, aLd]
  rw [hm]
  dsimp only
  rw [if_pos rfl, if_neg h1, h2, hv]
  rfl
theorem Rg.lald {a k : Nat} {j : Int32} {vs : List Value} {v : Value} (pc' : Nat) (hf : fetch M pc = some .laload) (hp : pc + 1 = pc') (hm : mem[a]? = some (.inl (.long, vs))) (hj : ix j = some k) (hv : vs[k]? = some v) (kk : Rg φ d M n0 pc' L (v :: st) mem o mem') : Rg φ d M n0 pc L (.int j :: .ref a :: st) mem o mem' := by
  subst hp
  obtain ⟨h1, h2⟩ := ix_no hj
  refine Rg.step _ hf ?_ (fun _ => rfl) kk
  dsimp only [one, aLd]
  rw [hm]
  dsimp only
  rw [if_pos rfl, if_neg h1, h2, hv]
  rfl
theorem Rg.zald {a k : Nat} {j : Int32} {vs : List Value} {v : Value} (pc' : Nat) (hf : fetch M pc = some .baload) (hp : pc + 1 = pc') (hm : mem[a]? = some (.inl (.boolean, vs))) (hj : ix j = some k) (hv : vs[k]? = some v) (kk : Rg φ d M n0 pc' L (v :: st) mem o mem') : Rg φ d M n0 pc L (.int j :: .ref a :: st) mem o mem' := by
  subst hp
  obtain ⟨h1, h2⟩ := ix_no hj
  refine Rg.step _ hf ?_ (fun _ => rfl) kk
  dsimp only [one, aLd]
  rw [hm]
  dsimp only
  rw [if_pos rfl, if_neg h1, h2, hv]
  rfl
theorem Rg.aald {a k : Nat} {j : Int32} {C : String} {vs : List Value} {v : Value} (pc' : Nat) (hf : fetch M pc = some .aaload) (hp : pc + 1 = pc') (hm : mem[a]? = some (.inl (.object C, vs))) (hj : ix j = some k) (hv : vs[k]? = some v) (kk : Rg φ d M n0 pc' L (v :: st) mem o mem') : Rg φ d M n0 pc L (.int j :: .ref a :: st) mem o mem' := by
  subst hp
  obtain ⟨h1, h2⟩ := ix_no hj
  refine Rg.step _ hf ?_ (fun _ => rfl) kk
  dsimp only [one]
  rw [hm]
  dsimp only
  rw [if_neg h1, h2, hv]
  rfl
theorem Rg.iast {a k : Nat} {j : Int32} {x : Int32} {vs : List Value} (pc' : Nat) (hf : fetch M pc = some .iastore) (hp : pc + 1 = pc') (hm : mem[a]? = some (.inl (.int, vs))) (ha : 2 ≤ a) (hj : ix j = some k) (hk : k < vs.length) (kk : Rg false d M n0 pc' L st (mem.set a (.inl (.int, vs.set k (.int x)))) o mem') : Rg false d M n0 pc L (.int x :: .int j :: .ref a :: st) mem o mem' := by
  subst hp
  obtain ⟨h1, h2⟩ := ix_no hj
  refine Rg.step _ hf ?_ (fun h => by cases h) kk
  dsimp only [one, aSt]
  rw [hm]
  dsimp only
  rw [if_pos ⟨rfl, ha⟩, if_neg h1, h2, if_pos hk]
  rfl
theorem Rg.last {a k : Nat} {j : Int32} {x : Int64} {vs : List Value} (pc' : Nat) (hf : fetch M pc = some .lastore) (hp : pc + 1 = pc') (hm : mem[a]? = some (.inl (.long, vs))) (ha : 2 ≤ a) (hj : ix j = some k) (hk : k < vs.length) (kk : Rg false d M n0 pc' L st (mem.set a (.inl (.long, vs.set k (.long x)))) o mem') : Rg false d M n0 pc L (.long x :: .int j :: .ref a :: st) mem o mem' := by
  subst hp
  obtain ⟨h1, h2⟩ := ix_no hj
  refine Rg.step _ hf ?_ (fun h => by cases h) kk
  dsimp only [one, aSt]
  rw [hm]
  dsimp only
  rw [if_pos ⟨rfl, ha⟩, if_neg h1, h2, if_pos hk]
  rfl
theorem Rg.zast {a k : Nat} {j : Int32} {x : Int32} {vs : List Value} (pc' : Nat) (hf : fetch M pc = some .bastore) (hp : pc + 1 = pc') (hm : mem[a]? = some (.inl (.boolean, vs))) (ha : 2 ≤ a) (hj : ix j = some k) (hk : k < vs.length) (kk : Rg false d M n0 pc' L st (mem.set a (.inl (.boolean, vs.set k (narrow .boolean (.int x))))) o mem') : Rg false d M n0 pc L (.int x :: .int j :: .ref a :: st) mem o mem' := by
  subst hp
  obtain ⟨h1, h2⟩ := ix_no hj
  refine Rg.step _ hf ?_ (fun h => by cases h) kk
  dsimp only [one, aSt]
  rw [hm]
  dsimp only
  rw [if_pos ⟨rfl, ha⟩, if_neg h1, h2, if_pos hk]
  rfl
theorem Rg.alen {a : Nat} {ty : FieldType} {vs : List Value} (pc' : Nat) (hf : fetch M pc = some .arraylength) (hp : pc + 1 = pc') (hm : mem[a]? = some (.inl (ty, vs))) (kk : Rg φ d M n0 pc' L (.int vs.length.toInt32 :: st) mem o mem') : Rg φ d M n0 pc L (.ref a :: st) mem o mem' := by
  subst hp
  refine Rg.step _ hf ?_ (fun _ => rfl) kk
  dsimp only [one]
  rw [hm]
  rfl
theorem Rg.newa {t : ArrayType} {ty : FieldType} {n : Int32} {k : Nat} (pc' : Nat) (hf : fetch M pc = some (.newarray t)) (hp : pc + 2 = pc') (ht : ats t = some ty) (hj : ix n = some k) (hk : k ≤ 100) (kk : Rg φ d M n0 pc' L (.ref mem.length :: st) (mem ++ [.inl (ty, List.replicate k (defaultValue ty))]) o mem') : Rg φ d M n0 pc L (.int n :: st) mem o mem' := by
  subst hp
  obtain ⟨h1, h2⟩ := ix_no hj
  refine Rg.step _ hf ?_ (fun _ => rfl) kk
  dsimp only [one]
  rw [ht]
  dsimp only
  rw [if_neg (by rintro (z | z); exact h1 z; omega), h2]
  rfl
theorem Rg.new {i ci : Nat} {rr : vw_C} {t : Nat → FieldType} {fs : List Value} (pc' : Nat) (hf : fetch M pc = some (.new i)) (hp : pc + 3 = pc') (hr : rC (mH M) i = some ci) (hcl : CLs[ci]? = some rr) (ht : tys[ci]? = some t) (h12 : ¬ 12 ≤ ci) (hfs : (List.range rr.2.2).map (fun j => defaultValue (t j)) = fs) (kk : Rg φ d M n0 pc' L (.ref mem.length :: st) (mem ++ [.inr (ci, fs)]) o mem') : Rg φ d M n0 pc L st mem o mem' := by
  subst hp
  subst hfs
  refine Rg.step _ hf ?_ (fun _ => rfl) kk
  dsimp only [one]
  rw [hr]
  dsimp only
  rw [hcl, ht]
  dsimp only
  rw [if_neg h12]
  rfl
theorem Rg.anew {i : Nat} {C : String} {n : Int32} {k : Nat} (pc' : Nat) (hf : fetch M pc = some (.anewarray i)) (hp : pc + 3 = pc') (hr : rA (mH M) i = some C) (hj : ix n = some k) (hk : k ≤ 100) (kk : Rg φ d M n0 pc' L (.ref mem.length :: st) (mem ++ [.inl (.object C, List.replicate k .null)]) o mem') : Rg φ d M n0 pc L (.int n :: st) mem o mem' := by
  subst hp
  obtain ⟨h1, h2⟩ := ix_no hj
  refine Rg.step _ hf ?_ (fun _ => rfl) kk
  dsimp only [one]
  rw [hr]
  dsimp only
  rw [if_neg (by rintro (z | z); exact h1 z; omega), h2]
  rfl
theorem Rg.aast {a v ci k : Nat} {j : Int32} {C : String} {vs fs : List Value} (pc' : Nat) (hf : fetch M pc = some .aastore) (hp : pc + 1 = pc') (hm : mem[a]? = some (.inl (.object C, vs))) (hv : mem[v]? = some (.inr (ci, fs))) (ha : 2 ≤ a) (hC : (CLs[ci]?.map (fun x => x.1)) = some C ∨ (C = "java/lang/Object" ∧ ci = 1)) (hj : ix j = some k) (hk : k < vs.length) (kk : Rg false d M n0 pc' L st (mem.set a (.inl (.object C, vs.set k (.ref v)))) o mem') : Rg false d M n0 pc L (.ref v :: .int j :: .ref a :: st) mem o mem' := by
  subst hp
  obtain ⟨h1, h2⟩ := ix_no hj
  refine Rg.step _ hf ?_ (fun h => by cases h) kk
  dsimp only [one]
  rw [hm, hv]
  dsimp only
  rw [if_pos ⟨ha, hC, h1, by omega⟩, h2]
  rfl
theorem Rg.copy {i a b z : Nat} {n : Int32} {vs us : List Value} (pc' : Nat) (hf : fetch M pc = some (.invokestatic i)) (hp : pc + 3 = pc') (hr : rY (mH M) i = some z) (hm : mem[a]? = some (.inl (.long, vs))) (hv : mem[b]? = some (.inl (.long, us))) (hb : 2 ≤ b) (hj : ix n = some vs.length) (hl : us.length = vs.length) (hL : vs.all isL = true) (h8 : (st.map (fun v => v.category)).sum ≤ 8) (kk : Rg false d M n0 pc' L st (mem.set b (.inl (.long, vs))) o mem') : Rg false d M n0 pc L (.int n :: .int 0 :: .ref b :: .int 0 :: .ref a :: st) mem o mem' := by
  subst hp
  obtain ⟨h1, h2⟩ := ix_no hj
  refine Rg.step _ hf ?_ (fun h => by cases h) kk
  dsimp only [one]
  rw [hr]
  dsimp only
  rw [hm, hv]
  dsimp only
  rw [if_pos ⟨hb, rfl, rfl, h1, h2, hl, hL, h8⟩]
  rfl
theorem Rg.cast {i a : Nat} {fs : List Value} (pc' : Nat) (hf : fetch M pc = some (.checkcast i)) (hp : pc + 3 = pc') (hr : rC (mH M) i = some 1) (hm : mem[a]? = some (.inr (1, fs))) (kk : Rg φ d M n0 pc' L (.ref a :: st) mem o mem') : Rg φ d M n0 pc L (.ref a :: st) mem o mem' := by
  subst hp
  refine Rg.step _ hf ?_ (fun _ => rfl) kk
  dsimp only [one]
  rw [hr, hm]
  rfl
theorem Rg.ifeq {x : Int32} {off : Int} (t pc' : Nat) (hf : fetch M pc = some (.ifCond .eq off)) (ht : br pc off = some t) (hp : pc + 3 = pc') (ky : x = 0 → Rg φ d M n0 t L st mem o mem') (kn : ¬ x = 0 → Rg φ d M n0 pc' L st mem o mem') : Rg φ d M n0 pc L (.int x :: st) mem o mem' := by
  subst hp
  by_cases h : x = 0
  · refine Rg.step t hf ?_ (fun _ => rfl) (ky h)
    dsimp only [one, jmp]
    rw [ht]
    dsimp only
    rw [if_pos (by simp [Op.ifCond.holds, h])]
    rfl
  · refine Rg.step _ hf ?_ (fun _ => rfl) (kn (by simpa using h))
    dsimp only [one, jmp]
    rw [ht]
    dsimp only
    rw [if_neg (by simp [Op.ifCond.holds]; simpa using h)]
    rfl
theorem Rg.ifne {x : Int32} {off : Int} (t pc' : Nat) (hf : fetch M pc = some (.ifCond .ne off)) (ht : br pc off = some t) (hp : pc + 3 = pc') (ky : ¬ x = 0 → Rg φ d M n0 t L st mem o mem') (kn : x = 0 → Rg φ d M n0 pc' L st mem o mem') : Rg φ d M n0 pc L (.int x :: st) mem o mem' := by
  subst hp
  by_cases h : ¬ x = 0
  · refine Rg.step t hf ?_ (fun _ => rfl) (ky h)
    dsimp only [one, jmp]
    rw [ht]
    dsimp only
    rw [if_pos (by simp [Op.ifCond.holds, h])]
    rfl
  · refine Rg.step _ hf ?_ (fun _ => rfl) (kn (by simpa using h))
    dsimp only [one, jmp]
    rw [ht]
    dsimp only
    rw [if_neg (by simp [Op.ifCond.holds]; simpa using h)]
    rfl
theorem Rg.iflt {x : Int32} {off : Int} (t pc' : Nat) (hf : fetch M pc = some (.ifCond .lt off)) (ht : br pc off = some t) (hp : pc + 3 = pc') (ky : x < 0 → Rg φ d M n0 t L st mem o mem') (kn : ¬ x < 0 → Rg φ d M n0 pc' L st mem o mem') : Rg φ d M n0 pc L (.int x :: st) mem o mem' := by
  subst hp
  by_cases h : x < 0
  · refine Rg.step t hf ?_ (fun _ => rfl) (ky h)
    dsimp only [one, jmp]
    rw [ht]
    dsimp only
    rw [if_pos (by simp [Op.ifCond.holds, h])]
    rfl
  · refine Rg.step _ hf ?_ (fun _ => rfl) (kn (by simpa using h))
    dsimp only [one, jmp]
    rw [ht]
    dsimp only
    rw [if_neg (by simp [Op.ifCond.holds]; simpa using h)]
    rfl
theorem Rg.ifge {x : Int32} {off : Int} (t pc' : Nat) (hf : fetch M pc = some (.ifCond .ge off)) (ht : br pc off = some t) (hp : pc + 3 = pc') (ky : 0 ≤ x → Rg φ d M n0 t L st mem o mem') (kn : ¬ 0 ≤ x → Rg φ d M n0 pc' L st mem o mem') : Rg φ d M n0 pc L (.int x :: st) mem o mem' := by
  subst hp
  by_cases h : 0 ≤ x
  · refine Rg.step t hf ?_ (fun _ => rfl) (ky h)
    dsimp only [one, jmp]
    rw [ht]
    dsimp only
    rw [if_pos (by simp [Op.ifCond.holds, h])]
    rfl
  · refine Rg.step _ hf ?_ (fun _ => rfl) (kn (by simpa using h))
    dsimp only [one, jmp]
    rw [ht]
    dsimp only
    rw [if_neg (by simp [Op.ifCond.holds]; simpa using h)]
    rfl
theorem Rg.ifgt {x : Int32} {off : Int} (t pc' : Nat) (hf : fetch M pc = some (.ifCond .gt off)) (ht : br pc off = some t) (hp : pc + 3 = pc') (ky : 0 < x → Rg φ d M n0 t L st mem o mem') (kn : ¬ 0 < x → Rg φ d M n0 pc' L st mem o mem') : Rg φ d M n0 pc L (.int x :: st) mem o mem' := by
  subst hp
  by_cases h : 0 < x
  · refine Rg.step t hf ?_ (fun _ => rfl) (ky h)
    dsimp only [one, jmp]
    rw [ht]
    dsimp only
    rw [if_pos (by simp [Op.ifCond.holds, h])]
    rfl
  · refine Rg.step _ hf ?_ (fun _ => rfl) (kn (by simpa using h))
    dsimp only [one, jmp]
    rw [ht]
    dsimp only
    rw [if_neg (by simp [Op.ifCond.holds]; simpa using h)]
    rfl
theorem Rg.ifle {x : Int32} {off : Int} (t pc' : Nat) (hf : fetch M pc = some (.ifCond .le off)) (ht : br pc off = some t) (hp : pc + 3 = pc') (ky : x ≤ 0 → Rg φ d M n0 t L st mem o mem') (kn : ¬ x ≤ 0 → Rg φ d M n0 pc' L st mem o mem') : Rg φ d M n0 pc L (.int x :: st) mem o mem' := by
  subst hp
  by_cases h : x ≤ 0
  · refine Rg.step t hf ?_ (fun _ => rfl) (ky h)
    dsimp only [one, jmp]
    rw [ht]
    dsimp only
    rw [if_pos (by simp [Op.ifCond.holds, h])]
    rfl
  · refine Rg.step _ hf ?_ (fun _ => rfl) (kn (by simpa using h))
    dsimp only [one, jmp]
    rw [ht]
    dsimp only
    rw [if_neg (by simp [Op.ifCond.holds]; simpa using h)]
    rfl
theorem Rg.iceq {x y : Int32} {off : Int} (t pc' : Nat) (hf : fetch M pc = some (.if_icmp .eq off)) (ht : br pc off = some t) (hp : pc + 3 = pc') (ky : x = y → Rg φ d M n0 t L st mem o mem') (kn : ¬ x = y → Rg φ d M n0 pc' L st mem o mem') : Rg φ d M n0 pc L (.int y :: .int x :: st) mem o mem' := by
  subst hp
  by_cases h : x = y
  · refine Rg.step t hf ?_ (fun _ => rfl) (ky h)
    dsimp only [one, jmp]
    rw [ht]
    dsimp only
    rw [if_pos (by simp [Op.if_icmp.holds, h])]
    rfl
  · refine Rg.step _ hf ?_ (fun _ => rfl) (kn (by simpa using h))
    dsimp only [one, jmp]
    rw [ht]
    dsimp only
    rw [if_neg (by simp [Op.if_icmp.holds]; simpa using h)]
    rfl
theorem Rg.icne {x y : Int32} {off : Int} (t pc' : Nat) (hf : fetch M pc = some (.if_icmp .ne off)) (ht : br pc off = some t) (hp : pc + 3 = pc') (ky : ¬ x = y → Rg φ d M n0 t L st mem o mem') (kn : x = y → Rg φ d M n0 pc' L st mem o mem') : Rg φ d M n0 pc L (.int y :: .int x :: st) mem o mem' := by
  subst hp
  by_cases h : ¬ x = y
  · refine Rg.step t hf ?_ (fun _ => rfl) (ky h)
    dsimp only [one, jmp]
    rw [ht]
    dsimp only
    rw [if_pos (by simp [Op.if_icmp.holds, h])]
    rfl
  · refine Rg.step _ hf ?_ (fun _ => rfl) (kn (by simpa using h))
    dsimp only [one, jmp]
    rw [ht]
    dsimp only
    rw [if_neg (by simp [Op.if_icmp.holds]; simpa using h)]
    rfl
theorem Rg.iclt {x y : Int32} {off : Int} (t pc' : Nat) (hf : fetch M pc = some (.if_icmp .lt off)) (ht : br pc off = some t) (hp : pc + 3 = pc') (ky : x < y → Rg φ d M n0 t L st mem o mem') (kn : ¬ x < y → Rg φ d M n0 pc' L st mem o mem') : Rg φ d M n0 pc L (.int y :: .int x :: st) mem o mem' := by
  subst hp
  by_cases h : x < y
  · refine Rg.step t hf ?_ (fun _ => rfl) (ky h)
    dsimp only [one, jmp]
    rw [ht]
    dsimp only
    rw [if_pos (by simp [Op.if_icmp.holds, h])]
    rfl
  · refine Rg.step _ hf ?_ (fun _ => rfl) (kn (by simpa using h))
    dsimp only [one, jmp]
    rw [ht]
    dsimp only
    rw [if_neg (by simp [Op.if_icmp.holds]; simpa using h)]
    rfl
theorem Rg.icge {x y : Int32} {off : Int} (t pc' : Nat) (hf : fetch M pc = some (.if_icmp .ge off)) (ht : br pc off = some t) (hp : pc + 3 = pc') (ky : y ≤ x → Rg φ d M n0 t L st mem o mem') (kn : ¬ y ≤ x → Rg φ d M n0 pc' L st mem o mem') : Rg φ d M n0 pc L (.int y :: .int x :: st) mem o mem' := by
  subst hp
  by_cases h : y ≤ x
  · refine Rg.step t hf ?_ (fun _ => rfl) (ky h)
    dsimp only [one, jmp]
    rw [ht]
    dsimp only
    rw [if_pos (by simp [Op.if_icmp.holds, h])]
    rfl
  · refine Rg.step _ hf ?_ (fun _ => rfl) (kn (by simpa using h))
    dsimp only [one, jmp]
    rw [ht]
    dsimp only
    rw [if_neg (by simp [Op.if_icmp.holds]; simpa using h)]
    rfl
theorem Rg.icgt {x y : Int32} {off : Int} (t pc' : Nat) (hf : fetch M pc = some (.if_icmp .gt off)) (ht : br pc off = some t) (hp : pc + 3 = pc') (ky : y < x → Rg φ d M n0 t L st mem o mem') (kn : ¬ y < x → Rg φ d M n0 pc' L st mem o mem') : Rg φ d M n0 pc L (.int y :: .int x :: st) mem o mem' := by
  subst hp
  by_cases h : y < x
  · refine Rg.step t hf ?_ (fun _ => rfl) (ky h)
    dsimp only [one, jmp]
    rw [ht]
    dsimp only
    rw [if_pos (by simp [Op.if_icmp.holds, h])]
    rfl
  · refine Rg.step _ hf ?_ (fun _ => rfl) (kn (by simpa using h))
    dsimp only [one, jmp]
    rw [ht]
    dsimp only
    rw [if_neg (by simp [Op.if_icmp.holds]; simpa using h)]
    rfl
theorem Rg.icle {x y : Int32} {off : Int} (t pc' : Nat) (hf : fetch M pc = some (.if_icmp .le off)) (ht : br pc off = some t) (hp : pc + 3 = pc') (ky : x ≤ y → Rg φ d M n0 t L st mem o mem') (kn : ¬ x ≤ y → Rg φ d M n0 pc' L st mem o mem') : Rg φ d M n0 pc L (.int y :: .int x :: st) mem o mem' := by
  subst hp
  by_cases h : x ≤ y
  · refine Rg.step t hf ?_ (fun _ => rfl) (ky h)
    dsimp only [one, jmp]
    rw [ht]
    dsimp only
    rw [if_pos (by simp [Op.if_icmp.holds, h])]
    rfl
  · refine Rg.step _ hf ?_ (fun _ => rfl) (kn (by simpa using h))
    dsimp only [one, jmp]
    rw [ht]
    dsimp only
    rw [if_neg (by simp [Op.if_icmp.holds]; simpa using h)]
    rfl
theorem Rg.acmp {c : ClassFile.ACond} {x y : Nat} {off : Int} (t pc' : Nat) (hf : fetch M pc = some (.if_acmp c off)) (ht : br pc off = some t) (hp : pc + 3 = pc') (ky : acm c x y = true → Rg φ d M n0 t L st mem o mem') (kn : acm c x y = false → Rg φ d M n0 pc' L st mem o mem') : Rg φ d M n0 pc L (.ref y :: .ref x :: st) mem o mem' := by
  subst hp
  cases h : acm c x y with
  | true =>
    refine Rg.step t hf ?_ (fun _ => rfl) (ky h)
    dsimp only [one, jmp]
    rw [ht, h]
    rfl
  | false =>
    refine Rg.step _ hf ?_ (fun _ => rfl) (kn h)
    dsimp only [one, jmp]
    rw [ht, h]
    rfl
theorem Rg.divI {x y : Int32} (pc' : Nat) (hf : fetch M pc = some .idiv) (hp : pc + 1 = pc') (hy : ¬ y = 0) (kk : Rg φ d M n0 pc' L (.int (x / y) :: st) mem o mem') : Rg φ d M n0 pc L (.int y :: .int x :: st) mem o mem' := by
  subst hp
  refine Rg.step _ hf ?_ (fun _ => rfl) kk
  dsimp only [one]
  rw [if_neg hy]
  rfl
theorem Rg.remI {x y : Int32} (pc' : Nat) (hf : fetch M pc = some .irem) (hp : pc + 1 = pc') (hy : ¬ y = 0) (kk : Rg φ d M n0 pc' L (.int (x - x / y * y) :: st) mem o mem') : Rg φ d M n0 pc L (.int y :: .int x :: st) mem o mem' := by
  subst hp
  refine Rg.step _ hf ?_ (fun _ => rfl) kk
  dsimp only [one]
  rw [if_neg hy]
  rfl
theorem Rg.divL {x y : Int64} (pc' : Nat) (hf : fetch M pc = some .ldiv) (hp : pc + 1 = pc') (hy : ¬ y = 0) (kk : Rg φ d M n0 pc' L (.long (x / y) :: st) mem o mem') : Rg φ d M n0 pc L (.long y :: .long x :: st) mem o mem' := by
  subst hp
  refine Rg.step _ hf ?_ (fun _ => rfl) kk
  dsimp only [one]
  rw [if_neg hy]
  rfl
theorem Rg.remL {x y : Int64} (pc' : Nat) (hf : fetch M pc = some .lrem) (hp : pc + 1 = pc') (hy : ¬ y = 0) (kk : Rg φ d M n0 pc' L (.long (x - x / y * y) :: st) mem o mem') : Rg φ d M n0 pc L (.long y :: .long x :: st) mem o mem' := by
  subst hp
  refine Rg.step _ hf ?_ (fun _ => rfl) kk
  dsimp only [one]
  rw [if_neg hy]
  rfl
end RULES
