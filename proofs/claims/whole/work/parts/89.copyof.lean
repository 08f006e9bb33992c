/-! Arrays.copyOf of a list's array, in the small machine. -/
section R89
variable {φ : Bool} {d : Nat} {M : MI} {n0 pc : Nat} {L : AL} {st : List Value} {mem : AM} {o : Option Value ⊕ Nat} {mem' : AM}
theorem Rg.copA {a : Nat} {n : Int32} {vs : List Value} (pc' : Nat) (hf : fetch M pc = some (.invokevirtual 86)) (hp : pc + 6 = pc') (hM : mH M = 4) (hf2 : fetch M (pc + 3) = some (.invokestatic 300)) (hm : mem[a]? = some (.inl (.object "java/lang/Object", vs))) (hn : ¬ n < 0) (h1 : vs.length ≤ n.toNatClampNeg) (h2 : n.toNatClampNeg ≤ 100) (hL : vs.all (okE1 mem) = true) (k : Rg false d M n0 pc' L [.ref mem.length] (mem ++ [.inl (.object "java/lang/Object", vs ++ List.replicate (n.toNatClampNeg - vs.length) .null)]) o mem') : Rg false d M n0 pc L [.ref a, .int n, .ref a] mem o mem' := by
  subst hp
  intro w hw
  obtain ⟨f, w', hw', h⟩ := k true (fun e => by cases e)
  refine ⟨f + 1, w', hw', ?_⟩
  have e1 : one M (.invokevirtual 86) pc L [.ref a, .int n, .ref a] mem = some (.inr (.inr (.inr 99))) := by
    dsimp only [one]
    rw [hM]
    rfl
  have e2 : cop M pc [.ref a, .int n, .ref a] mem = some (mem ++ [.inl (.object "java/lang/Object", vs ++ List.replicate (n.toNatClampNeg - vs.length) .null)]) := by
    unfold cop
    rw [hf2]
    dsimp only
    rw [hm]
    dsimp only
    rw [if_pos ⟨rfl, rfl, rfl, hn, h1, h2, hL⟩]
  rw [run, hf]
  dsimp only
  rw [e1]
  dsimp only
  rw [if_pos rfl, e2]
  exact h
theorem c_copyOf {a : Nat} {n : Int32} {vs : List Value} (hm : mem[a]? = some (.inl (.object "java/lang/Object", vs))) (hn : ¬ n < 0) (h1 : vs.length ≤ n.toNatClampNeg) (h2 : n.toNatClampNeg ≤ 100) (hL : vs.all (okE1 mem) = true) : Cg false d m_Arrays_copyOf [.ref a, .int n] mem (.inl (some (.ref mem.length))) (mem ++ [.inl (.object "java/lang/Object", vs ++ List.replicate (n.toNatClampNeg - vs.length) .null)]) := by
  refine Cg.of (Nat.le_of_ble_eq_true rfl) ?_
  change Rg _ _ _ _ 0 [(0, .ref a), (1, .int n)] [] _ _ _
  refine Rg.step 1 F_Arrays_copyOf_0 rfl (fun _ => rfl) ?_
  refine Rg.step 2 F_Arrays_copyOf_1 rfl (fun _ => rfl) ?_
  refine Rg.step 3 F_Arrays_copyOf_2 rfl (fun _ => rfl) ?_
  refine Rg.copA 9 F_Arrays_copyOf_3 rfl rfl F_Arrays_copyOf_6 hm hn h1 h2 hL ?_
  exact Rg.ret F_Arrays_copyOf_9 rfl
end R89
