/-! 'throw new': an exception of one of the three kinds, made and thrown at once, by a method that has made and written nothing. -/
def exNames : List String := ["java/lang/RuntimeException", "java/lang/Exception"]
set_option maxRecDepth 100000 in
theorem own_a : ∀ w ∈ Bundle.ownAtoms0 "PlanJudge" 63 "java/lang/IllegalArgumentException" exNames, w ∈ lw_t2 ∨ w ∈ stW := by decide +kernel
set_option maxRecDepth 100000 in
theorem own_b : ∀ w ∈ Bundle.ownAtoms0 "PlanJudge" 237 "java/lang/IndexOutOfBoundsException" exNames, w ∈ lw_t2 ∨ w ∈ stW := by decide +kernel
set_option maxRecDepth 100000 in
theorem own_c : ∀ w ∈ Bundle.ownAtoms0 "PlanJudge" 198 "java/lang/IllegalStateException" exNames, w ∈ lw_t2 ∨ w ∈ stW := by decide +kernel
theorem rE_own {h j ci : Nat} (e : rE h j = some ci) : ∃ (rr : vw_C), homes[h]? = some "PlanJudge" ∧ CLs[ci]? = some rr ∧ Bundle.fit rr.1 = true ∧ ∀ w ∈ Bundle.ownAtoms0 "PlanJudge" j rr.1 exNames, w ∈ lw_t2 ∨ w ∈ stW := by
  have key : ∀ x ∈ rEs, ∃ (rr : vw_C), homes[x.1.1]? = some "PlanJudge" ∧ CLs[x.2]? = some rr ∧ Bundle.fit rr.1 = true ∧ ∀ w ∈ Bundle.ownAtoms0 "PlanJudge" x.1.2 rr.1 exNames, w ∈ lw_t2 ∨ w ∈ stW := by
    intro x hx
    have hx' : x = ((1, 63), 12) ∨ x = ((1, 237), 13) ∨ x = ((1, 198), 14) := by simpa [rEs, rEs_0] using hx
    rcases hx' with rfl | rfl | rfl
    · exact ⟨_, rfl, rfl, by decide +kernel, own_a⟩
    · exact ⟨_, rfl, rfl, by decide +kernel, own_b⟩
    · exact ⟨_, rfl, rfl, by decide +kernel, own_c⟩
  exact find_ok key e
theorem stW_args {s : State} {args : Array Value} : ∀ w ∈ stW, w.before #[] s = true → w.before args s = true := by
  intro w hw h
  simp only [stW, List.mem_cons, List.not_mem_nil, or_false] at hw
  rcases hw with rfl | rfl | rfl | rfl <;> exact h
