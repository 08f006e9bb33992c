theorem c_checkIndex_ok (d : Nat) {mem : AM} {i sz : Int32} (h1 : ¬ i < 0) (h2 : i < sz) : Cg true d m_PJ_checkIndex [.int i, .int sz] mem (.inl none) mem := by
  refine Cg.of (Nat.le_of_ble_eq_true rfl) ?_
  change Rg _ _ _ _ 0 [(0, .int i), (1, .int sz)] [] _ _ _
  refine Rg.step 1 F_PJ_checkIndex_0 rfl (fun _ => rfl) ?_
  refine Rg.iflt 9 4 F_PJ_checkIndex_1 rfl rfl (fun h => absurd h1 (fun z => z h)) (fun _ => ?_)
  refine Rg.step 5 F_PJ_checkIndex_4 rfl (fun _ => rfl) ?_
  refine Rg.step 6 F_PJ_checkIndex_5 rfl (fun _ => rfl) ?_
  refine Rg.iclt 17 9 F_PJ_checkIndex_6 rfl rfl (fun _ => ?_) (fun h => absurd h2 h)
  exact Rg.ret F_PJ_checkIndex_17 rfl
theorem c_checkIndex_no (d : Nat) {mem : AM} {i sz : Int32} (h0 : i < 0 ∨ ¬ i < sz) : Cg true d m_PJ_checkIndex [.int i, .int sz] mem (.inr mem.length) (mem ++ [.inr (13, [])]) := by
  refine Cg.of (Nat.le_of_ble_eq_true rfl) ?_
  change Rg _ _ _ _ 0 [(0, .int i), (1, .int sz)] [] _ _ _
  refine Rg.step 1 F_PJ_checkIndex_0 rfl (fun _ => rfl) ?_
  refine Rg.iflt 9 4 F_PJ_checkIndex_1 rfl rfl (fun h1 => ?_) (fun h1 => ?_)
  · exact Rg.thr F_PJ_checkIndex_9 F_PJ_checkIndex_12 F_PJ_checkIndex_13 F_PJ_checkIndex_16 rC_1_235 rfl (by decide) rE_1_237 rfl rfl (by decide)
  · refine Rg.step 5 F_PJ_checkIndex_4 rfl (fun _ => rfl) ?_
    refine Rg.step 6 F_PJ_checkIndex_5 rfl (fun _ => rfl) ?_
    refine Rg.iclt 17 9 F_PJ_checkIndex_6 rfl rfl (fun h => absurd h0 (fun z => z.elim h1 (fun y => y h))) (fun _ => ?_)
    exact Rg.thr F_PJ_checkIndex_9 F_PJ_checkIndex_12 F_PJ_checkIndex_13 F_PJ_checkIndex_16 rC_1_235 rfl (by decide) rE_1_237 rfl rfl (by decide)
theorem c_checkChoice_ok (d : Nat) {mem : AM} {i lo hi : Int32} (h1 : ¬ i < lo) (h2 : i ≤ hi) : Cg true d m_PJ_checkChoice [.int i, .int lo, .int hi] mem (.inl none) mem := by
  refine Cg.of (Nat.le_of_ble_eq_true rfl) ?_
  change Rg _ _ _ _ 0 [(0, .int i), (1, .int lo), (2, .int hi)] [] _ _ _
  refine Rg.step 1 F_PJ_checkChoice_0 rfl (fun _ => rfl) ?_
  refine Rg.step 2 F_PJ_checkChoice_1 rfl (fun _ => rfl) ?_
  refine Rg.iclt 10 5 F_PJ_checkChoice_2 rfl rfl (fun h => absurd h h1) (fun _ => ?_)
  refine Rg.step 6 F_PJ_checkChoice_5 rfl (fun _ => rfl) ?_
  refine Rg.step 7 F_PJ_checkChoice_6 rfl (fun _ => rfl) ?_
  refine Rg.icle 18 10 F_PJ_checkChoice_7 rfl rfl (fun _ => ?_) (fun h => absurd h2 h)
  exact Rg.ret F_PJ_checkChoice_18 rfl
