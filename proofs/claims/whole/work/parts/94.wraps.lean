/-! The law: its wrappers. -/
section R94
variable {d : Nat} {mem mem1 : AM} {fs : List Value}
theorem w_amount_ok {x1 x2 : Int32} (h2 : mem[2]? = some (.inr (0, fs))) (hc : Cg false d m_PJ_amount [.ref 2, .int x1, .int x2] mem (.inl none) mem1) : Cg false (d + 1) m_Law_amount [.ref 2, .int x1, .int x2] mem (.inl (some (.int (iI 0)))) mem1 := by
  refine Cg.of (Nat.le_of_ble_eq_true rfl) ?_
  change Rg _ _ _ _ 0 [(0, .ref 2), (1, .int x1), (2, .int x2)] [] _ _ _
  refine Rg.step 1 F_Law_amount_0 rfl (fun _ => rfl) ?_
  refine Rg.step 2 F_Law_amount_1 rfl (fun _ => rfl) ?_
  refine Rg.step 3 F_Law_amount_2 rfl (fun _ => rfl) ?_
  refine Rg.call 6 F_Law_amount_3 rfl (one_V rM_0_7 (by decide) (by simp) rfl rfl h2 rfl) (Nat.le_of_ble_eq_true rfl) hc ?_
  refine Rg.step 12 F_Law_amount_6 rfl (fun _ => rfl) ?_
  refine Rg.step 13 F_Law_amount_12 rfl (fun _ => rfl) ?_
  exact Rg.ret F_Law_amount_13 rfl
theorem w_amount_1 {x1 x2 : Int32} (h2 : mem[2]? = some (.inr (0, fs))) (hc : Cg true d m_PJ_amount [.ref 2, .int x1, .int x2] mem (.inr mem.length) (mem ++ [.inr (12, [])])) : Cg false (d + 1) m_Law_amount [.ref 2, .int x1, .int x2] mem (.inl (some (.int (iI 1)))) (mem ++ [.inr (12, [])]) := by
  refine Cg.of (Nat.le_of_ble_eq_true rfl) ?_
  change Rg _ _ _ _ 0 [(0, .ref 2), (1, .int x1), (2, .int x2)] [] _ _ _
  refine Rg.step 1 F_Law_amount_0 rfl (fun _ => rfl) ?_
  refine Rg.step 2 F_Law_amount_1 rfl (fun _ => rfl) ?_
  refine Rg.step 3 F_Law_amount_2 rfl (fun _ => rfl) ?_
  refine Rg.callH F_Law_amount_3 (one_V rM_0_7 (by decide) (by simp) rfl rfl h2 rfl) (Nat.le_of_ble_eq_true rfl) (Cg.any hc) gX (List.cons_ne_nil _ _) (h := 9) (by decide +kernel) ?_
  refine Rg.step 10 F_Law_amount_9 rfl (fun _ => rfl) ?_
  refine Rg.step 11 F_Law_amount_10 rfl (fun _ => rfl) ?_
  exact Rg.ret F_Law_amount_11 rfl
theorem w_moment_ok {x1 x2 : Int32} (h2 : mem[2]? = some (.inr (0, fs))) (hc : Cg false d m_PJ_moment [.ref 2, .int x1, .int x2] mem (.inl none) mem1) : Cg false (d + 1) m_Law_moment [.ref 2, .int x1, .int x2] mem (.inl (some (.int (iI 0)))) mem1 := by
  refine Cg.of (Nat.le_of_ble_eq_true rfl) ?_
  change Rg _ _ _ _ 0 [(0, .ref 2), (1, .int x1), (2, .int x2)] [] _ _ _
  refine Rg.step 1 F_Law_moment_0 rfl (fun _ => rfl) ?_
  refine Rg.step 2 F_Law_moment_1 rfl (fun _ => rfl) ?_
  refine Rg.step 3 F_Law_moment_2 rfl (fun _ => rfl) ?_
  refine Rg.call 6 F_Law_moment_3 rfl (one_V rM_0_15 (by decide) (by simp) rfl rfl h2 rfl) (Nat.le_of_ble_eq_true rfl) hc ?_
  refine Rg.step 12 F_Law_moment_6 rfl (fun _ => rfl) ?_
  refine Rg.step 13 F_Law_moment_12 rfl (fun _ => rfl) ?_
  exact Rg.ret F_Law_moment_13 rfl
theorem w_moment_1 {x1 x2 : Int32} (h2 : mem[2]? = some (.inr (0, fs))) (hc : Cg true d m_PJ_moment [.ref 2, .int x1, .int x2] mem (.inr mem.length) (mem ++ [.inr (12, [])])) : Cg false (d + 1) m_Law_moment [.ref 2, .int x1, .int x2] mem (.inl (some (.int (iI 1)))) (mem ++ [.inr (12, [])]) := by
  refine Cg.of (Nat.le_of_ble_eq_true rfl) ?_
  change Rg _ _ _ _ 0 [(0, .ref 2), (1, .int x1), (2, .int x2)] [] _ _ _
  refine Rg.step 1 F_Law_moment_0 rfl (fun _ => rfl) ?_
  refine Rg.step 2 F_Law_moment_1 rfl (fun _ => rfl) ?_
  refine Rg.step 3 F_Law_moment_2 rfl (fun _ => rfl) ?_
  refine Rg.callH F_Law_moment_3 (one_V rM_0_15 (by decide) (by simp) rfl rfl h2 rfl) (Nat.le_of_ble_eq_true rfl) (Cg.any hc) gX (List.cons_ne_nil _ _) (h := 9) (by decide +kernel) ?_
  refine Rg.step 10 F_Law_moment_9 rfl (fun _ => rfl) ?_
  refine Rg.step 11 F_Law_moment_10 rfl (fun _ => rfl) ?_
  exact Rg.ret F_Law_moment_11 rfl
theorem w_epsilon_ok (h2 : mem[2]? = some (.inr (0, fs))) (hc : Cg false d m_PJ_epsilon [.ref 2] mem (.inl none) mem1) : Cg false (d + 1) m_Law_epsilon [.ref 2] mem (.inl (some (.int (iI 0)))) mem1 := by
  refine Cg.of (Nat.le_of_ble_eq_true rfl) ?_
  change Rg _ _ _ _ 0 [(0, .ref 2)] [] _ _ _
  refine Rg.step 1 F_Law_epsilon_0 rfl (fun _ => rfl) ?_
  refine Rg.call 4 F_Law_epsilon_1 rfl (one_V rM_0_18 (by decide) (by simp) rfl rfl h2 rfl) (Nat.le_of_ble_eq_true rfl) hc ?_
  refine Rg.step 10 F_Law_epsilon_4 rfl (fun _ => rfl) ?_
  refine Rg.step 11 F_Law_epsilon_10 rfl (fun _ => rfl) ?_
  exact Rg.ret F_Law_epsilon_11 rfl
theorem w_epsilon_1 (h2 : mem[2]? = some (.inr (0, fs))) (hc : Cg true d m_PJ_epsilon [.ref 2] mem (.inr mem.length) (mem ++ [.inr (12, [])])) : Cg false (d + 1) m_Law_epsilon [.ref 2] mem (.inl (some (.int (iI 1)))) (mem ++ [.inr (12, [])]) := by
  refine Cg.of (Nat.le_of_ble_eq_true rfl) ?_
  change Rg _ _ _ _ 0 [(0, .ref 2)] [] _ _ _
  refine Rg.step 1 F_Law_epsilon_0 rfl (fun _ => rfl) ?_
  refine Rg.callH F_Law_epsilon_1 (one_V rM_0_18 (by decide) (by simp) rfl rfl h2 rfl) (Nat.le_of_ble_eq_true rfl) (Cg.any hc) gX (List.cons_ne_nil _ _) (h := 7) (by decide +kernel) ?_
  refine Rg.step 8 F_Law_epsilon_7 rfl (fun _ => rfl) ?_
  refine Rg.step 9 F_Law_epsilon_8 rfl (fun _ => rfl) ?_
  exact Rg.ret F_Law_epsilon_9 rfl
theorem w_fact_ok {x1 x2 : Int32} (h2 : mem[2]? = some (.inr (0, fs))) (hc : Cg false d m_PJ_fact [.ref 2, .int x1, .int x2] mem (.inl none) mem1) : Cg false (d + 1) m_Law_fact [.ref 2, .int x1, .int x2] mem (.inl (some (.int (iI 0)))) mem1 := by
  refine Cg.of (Nat.le_of_ble_eq_true rfl) ?_
  change Rg _ _ _ _ 0 [(0, .ref 2), (1, .int x1), (2, .int x2)] [] _ _ _
  refine Rg.step 1 F_Law_fact_0 rfl (fun _ => rfl) ?_
  refine Rg.step 2 F_Law_fact_1 rfl (fun _ => rfl) ?_
  refine Rg.step 3 F_Law_fact_2 rfl (fun _ => rfl) ?_
  refine Rg.call 6 F_Law_fact_3 rfl (one_V rM_0_21 (by decide) (by simp) rfl rfl h2 rfl) (Nat.le_of_ble_eq_true rfl) hc ?_
  refine Rg.step 12 F_Law_fact_6 rfl (fun _ => rfl) ?_
  refine Rg.step 13 F_Law_fact_12 rfl (fun _ => rfl) ?_
  exact Rg.ret F_Law_fact_13 rfl
theorem w_fact_1 {x1 x2 : Int32} (h2 : mem[2]? = some (.inr (0, fs))) (hc : Cg true d m_PJ_fact [.ref 2, .int x1, .int x2] mem (.inr mem.length) (mem ++ [.inr (13, [])])) : Cg false (d + 1) m_Law_fact [.ref 2, .int x1, .int x2] mem (.inl (some (.int (iI 1)))) (mem ++ [.inr (13, [])]) := by
  refine Cg.of (Nat.le_of_ble_eq_true rfl) ?_
  change Rg _ _ _ _ 0 [(0, .ref 2), (1, .int x1), (2, .int x2)] [] _ _ _
  refine Rg.step 1 F_Law_fact_0 rfl (fun _ => rfl) ?_
  refine Rg.step 2 F_Law_fact_1 rfl (fun _ => rfl) ?_
  refine Rg.step 3 F_Law_fact_2 rfl (fun _ => rfl) ?_
  refine Rg.callH F_Law_fact_3 (one_V rM_0_21 (by decide) (by simp) rfl rfl h2 rfl) (Nat.le_of_ble_eq_true rfl) (Cg.any hc) gX (List.cons_ne_nil _ _) (h := 9) (by decide +kernel) ?_
  refine Rg.step 10 F_Law_fact_9 rfl (fun _ => rfl) ?_
  refine Rg.step 11 F_Law_fact_10 rfl (fun _ => rfl) ?_
  exact Rg.ret F_Law_fact_11 rfl
theorem w_number_ok {x1 : Int32} (h2 : mem[2]? = some (.inr (0, fs))) (hc : Cg false d m_PJ_number [.ref 2, .int x1] mem (.inl none) mem1) : Cg false (d + 1) m_Law_number [.ref 2, .int x1] mem (.inl (some (.int (iI 0)))) mem1 := by
  refine Cg.of (Nat.le_of_ble_eq_true rfl) ?_
  change Rg _ _ _ _ 0 [(0, .ref 2), (1, .int x1)] [] _ _ _
  refine Rg.step 1 F_Law_number_0 rfl (fun _ => rfl) ?_
  refine Rg.step 2 F_Law_number_1 rfl (fun _ => rfl) ?_
  refine Rg.call 5 F_Law_number_2 rfl (one_V rM_0_27 (by decide) (by simp) rfl rfl h2 rfl) (Nat.le_of_ble_eq_true rfl) hc ?_
  refine Rg.step 11 F_Law_number_5 rfl (fun _ => rfl) ?_
  refine Rg.step 12 F_Law_number_11 rfl (fun _ => rfl) ?_
  exact Rg.ret F_Law_number_12 rfl
theorem w_number_1 {x1 : Int32} (h2 : mem[2]? = some (.inr (0, fs))) (hc : Cg true d m_PJ_number [.ref 2, .int x1] mem (.inr mem.length) (mem ++ [.inr (13, [])])) : Cg false (d + 1) m_Law_number [.ref 2, .int x1] mem (.inl (some (.int (iI 1)))) (mem ++ [.inr (13, [])]) := by
  refine Cg.of (Nat.le_of_ble_eq_true rfl) ?_
  change Rg _ _ _ _ 0 [(0, .ref 2), (1, .int x1)] [] _ _ _
  refine Rg.step 1 F_Law_number_0 rfl (fun _ => rfl) ?_
  refine Rg.step 2 F_Law_number_1 rfl (fun _ => rfl) ?_
  refine Rg.callH F_Law_number_2 (one_V rM_0_27 (by decide) (by simp) rfl rfl h2 rfl) (Nat.le_of_ble_eq_true rfl) (Cg.any hc) gX (List.cons_ne_nil _ _) (h := 8) (by decide +kernel) ?_
  refine Rg.step 9 F_Law_number_8 rfl (fun _ => rfl) ?_
  refine Rg.step 10 F_Law_number_9 rfl (fun _ => rfl) ?_
  exact Rg.ret F_Law_number_10 rfl
theorem w_wish_ok {x1 x2 : Int32} (h2 : mem[2]? = some (.inr (0, fs))) (hc : Cg false d m_PJ_wish [.ref 2, .int x1, .int x2] mem (.inl none) mem1) : Cg false (d + 1) m_Law_wish [.ref 2, .int x1, .int x2] mem (.inl (some (.int (iI 0)))) mem1 := by
  refine Cg.of (Nat.le_of_ble_eq_true rfl) ?_
  change Rg _ _ _ _ 0 [(0, .ref 2), (1, .int x1), (2, .int x2)] [] _ _ _
  refine Rg.step 1 F_Law_wish_0 rfl (fun _ => rfl) ?_
  refine Rg.step 2 F_Law_wish_1 rfl (fun _ => rfl) ?_
  refine Rg.step 3 F_Law_wish_2 rfl (fun _ => rfl) ?_
  refine Rg.call 6 F_Law_wish_3 rfl (one_V rM_0_31 (by decide) (by simp) rfl rfl h2 rfl) (Nat.le_of_ble_eq_true rfl) hc ?_
  refine Rg.step 15 F_Law_wish_6 rfl (fun _ => rfl) ?_
  refine Rg.step 16 F_Law_wish_15 rfl (fun _ => rfl) ?_
  exact Rg.ret F_Law_wish_16 rfl
theorem w_wish_1 {x1 x2 : Int32} (h2 : mem[2]? = some (.inr (0, fs))) (hc : Cg true d m_PJ_wish [.ref 2, .int x1, .int x2] mem (.inr mem.length) (mem ++ [.inr (13, [])])) : Cg false (d + 1) m_Law_wish [.ref 2, .int x1, .int x2] mem (.inl (some (.int (iI 1)))) (mem ++ [.inr (13, [])]) := by
  refine Cg.of (Nat.le_of_ble_eq_true rfl) ?_
  change Rg _ _ _ _ 0 [(0, .ref 2), (1, .int x1), (2, .int x2)] [] _ _ _
  refine Rg.step 1 F_Law_wish_0 rfl (fun _ => rfl) ?_
  refine Rg.step 2 F_Law_wish_1 rfl (fun _ => rfl) ?_
  refine Rg.step 3 F_Law_wish_2 rfl (fun _ => rfl) ?_
  refine Rg.callH F_Law_wish_3 (one_V rM_0_31 (by decide) (by simp) rfl rfl h2 rfl) (Nat.le_of_ble_eq_true rfl) (Cg.any hc) gX (List.cons_ne_nil _ _) (h := 9) (by decide +kernel) ?_
  refine Rg.step 10 F_Law_wish_9 rfl (fun _ => rfl) ?_
  refine Rg.step 11 F_Law_wish_10 rfl (fun _ => rfl) ?_
  exact Rg.ret F_Law_wish_11 rfl
theorem w_wish_2 {x1 x2 : Int32} (h2 : mem[2]? = some (.inr (0, fs))) (hc : Cg true d m_PJ_wish [.ref 2, .int x1, .int x2] mem (.inr mem.length) (mem ++ [.inr (12, [])])) : Cg false (d + 1) m_Law_wish [.ref 2, .int x1, .int x2] mem (.inl (some (.int (iI 2)))) (mem ++ [.inr (12, [])]) := by
  refine Cg.of (Nat.le_of_ble_eq_true rfl) ?_
  change Rg _ _ _ _ 0 [(0, .ref 2), (1, .int x1), (2, .int x2)] [] _ _ _
  refine Rg.step 1 F_Law_wish_0 rfl (fun _ => rfl) ?_
  refine Rg.step 2 F_Law_wish_1 rfl (fun _ => rfl) ?_
  refine Rg.step 3 F_Law_wish_2 rfl (fun _ => rfl) ?_
  refine Rg.callH F_Law_wish_3 (one_V rM_0_31 (by decide) (by simp) rfl rfl h2 rfl) (Nat.le_of_ble_eq_true rfl) (Cg.any hc) gX (List.cons_ne_nil _ _) (h := 12) (by decide +kernel) ?_
  refine Rg.step 13 F_Law_wish_12 rfl (fun _ => rfl) ?_
  refine Rg.step 14 F_Law_wish_13 rfl (fun _ => rfl) ?_
  exact Rg.ret F_Law_wish_14 rfl
theorem w_want_ok {x1 x2 : Int32} (h2 : mem[2]? = some (.inr (0, fs))) (hc : Cg false d m_PJ_want [.ref 2, .int x1, .int x2] mem (.inl none) mem1) : Cg false (d + 1) m_Law_want [.ref 2, .int x1, .int x2] mem (.inl (some (.int (iI 0)))) mem1 := by
  refine Cg.of (Nat.le_of_ble_eq_true rfl) ?_
  change Rg _ _ _ _ 0 [(0, .ref 2), (1, .int x1), (2, .int x2)] [] _ _ _
  refine Rg.step 1 F_Law_want_0 rfl (fun _ => rfl) ?_
  refine Rg.step 2 F_Law_want_1 rfl (fun _ => rfl) ?_
  refine Rg.step 3 F_Law_want_2 rfl (fun _ => rfl) ?_
  refine Rg.call 6 F_Law_want_3 rfl (one_V rM_0_34 (by decide) (by simp) rfl rfl h2 rfl) (Nat.le_of_ble_eq_true rfl) hc ?_
  refine Rg.step 15 F_Law_want_6 rfl (fun _ => rfl) ?_
  refine Rg.step 16 F_Law_want_15 rfl (fun _ => rfl) ?_
  exact Rg.ret F_Law_want_16 rfl
theorem w_want_1 {x1 x2 : Int32} (h2 : mem[2]? = some (.inr (0, fs))) (hc : Cg true d m_PJ_want [.ref 2, .int x1, .int x2] mem (.inr mem.length) (mem ++ [.inr (13, [])])) : Cg false (d + 1) m_Law_want [.ref 2, .int x1, .int x2] mem (.inl (some (.int (iI 1)))) (mem ++ [.inr (13, [])]) := by
  refine Cg.of (Nat.le_of_ble_eq_true rfl) ?_
  change Rg _ _ _ _ 0 [(0, .ref 2), (1, .int x1), (2, .int x2)] [] _ _ _
  refine Rg.step 1 F_Law_want_0 rfl (fun _ => rfl) ?_
  refine Rg.step 2 F_Law_want_1 rfl (fun _ => rfl) ?_
  refine Rg.step 3 F_Law_want_2 rfl (fun _ => rfl) ?_
  refine Rg.callH F_Law_want_3 (one_V rM_0_34 (by decide) (by simp) rfl rfl h2 rfl) (Nat.le_of_ble_eq_true rfl) (Cg.any hc) gX (List.cons_ne_nil _ _) (h := 9) (by decide +kernel) ?_
  refine Rg.step 10 F_Law_want_9 rfl (fun _ => rfl) ?_
  refine Rg.step 11 F_Law_want_10 rfl (fun _ => rfl) ?_
  exact Rg.ret F_Law_want_11 rfl
theorem w_want_2 {x1 x2 : Int32} (h2 : mem[2]? = some (.inr (0, fs))) (hc : Cg true d m_PJ_want [.ref 2, .int x1, .int x2] mem (.inr mem.length) (mem ++ [.inr (12, [])])) : Cg false (d + 1) m_Law_want [.ref 2, .int x1, .int x2] mem (.inl (some (.int (iI 2)))) (mem ++ [.inr (12, [])]) := by
  refine Cg.of (Nat.le_of_ble_eq_true rfl) ?_
  change Rg _ _ _ _ 0 [(0, .ref 2), (1, .int x1), (2, .int x2)] [] _ _ _
  refine Rg.step 1 F_Law_want_0 rfl (fun _ => rfl) ?_
  refine Rg.step 2 F_Law_want_1 rfl (fun _ => rfl) ?_
  refine Rg.step 3 F_Law_want_2 rfl (fun _ => rfl) ?_
  refine Rg.callH F_Law_want_3 (one_V rM_0_34 (by decide) (by simp) rfl rfl h2 rfl) (Nat.le_of_ble_eq_true rfl) (Cg.any hc) gX (List.cons_ne_nil _ _) (h := 12) (by decide +kernel) ?_
  refine Rg.step 13 F_Law_want_12 rfl (fun _ => rfl) ?_
  refine Rg.step 14 F_Law_want_13 rfl (fun _ => rfl) ?_
  exact Rg.ret F_Law_want_14 rfl
theorem w_action_ok {v : Int32} {y : Int64} (h2 : mem[2]? = some (.inr (0, fs))) (hc : Cg false d m_PJ_action [.ref 2] mem (.inl (some (.int v))) mem1) (ho : mem1[218]? = some (.inl (.long, [.long y]))) : Cg false (d + 1) m_Law_action [.ref 2, .ref 218] mem (.inl (some (.int (iI 0)))) (mem1.set 218 (.inl (.long, [.long v.toInt64]))) := by
  refine Cg.of (Nat.le_of_ble_eq_true rfl) ?_
  change Rg _ _ _ _ 0 [(0, .ref 2), (1, .ref 218)] [] _ _ _
  refine Rg.step 1 F_Law_action_0 rfl (fun _ => rfl) ?_
  refine Rg.step 2 F_Law_action_1 rfl (fun _ => rfl) ?_
  refine Rg.step 3 F_Law_action_2 rfl (fun _ => rfl) ?_
  refine Rg.call 6 F_Law_action_3 rfl (one_V rM_0_37 (by decide) (by simp) rfl rfl h2 rfl) (Nat.le_of_ble_eq_true rfl) hc ?_
  refine Rg.step 7 F_Law_action_6 rfl (fun _ => rfl) ?_
  refine Rg.last (k := 0) 8 F_Law_action_7 rfl ho (by decide) (by decide) Nat.zero_lt_one ?_
  refine Rg.step 14 F_Law_action_8 rfl (fun _ => rfl) ?_
  refine Rg.step 15 F_Law_action_14 rfl (fun _ => rfl) ?_
  exact Rg.ret F_Law_action_15 rfl
theorem w_action_1 (h2 : mem[2]? = some (.inr (0, fs))) (hc : Cg true d m_PJ_action [.ref 2] mem (.inr mem.length) (mem ++ [.inr (14, [])])) : Cg false (d + 1) m_Law_action [.ref 2, .ref 218] mem (.inl (some (.int (iI 1)))) (mem ++ [.inr (14, [])]) := by
  refine Cg.of (Nat.le_of_ble_eq_true rfl) ?_
  change Rg _ _ _ _ 0 [(0, .ref 2), (1, .ref 218)] [] _ _ _
  refine Rg.step 1 F_Law_action_0 rfl (fun _ => rfl) ?_
  refine Rg.step 2 F_Law_action_1 rfl (fun _ => rfl) ?_
  refine Rg.step 3 F_Law_action_2 rfl (fun _ => rfl) ?_
  refine Rg.callH F_Law_action_3 (one_V rM_0_37 (by decide) (by simp) rfl rfl h2 rfl) (Nat.le_of_ble_eq_true rfl) (Cg.any hc) gX (List.cons_ne_nil _ _) (h := 11) (by decide +kernel) ?_
  refine Rg.step 12 F_Law_action_11 rfl (fun _ => rfl) ?_
  refine Rg.step 13 F_Law_action_12 rfl (fun _ => rfl) ?_
  exact Rg.ret F_Law_action_13 rfl
theorem w_need_ok {x1 x2 x3 x4 : Int32} (h2 : mem[2]? = some (.inr (0, fs))) (hc : Cg false d m_PJ_need [.ref 2, .int x1, .int x2, .int x3, .int x4] mem (.inl none) mem1) : Cg false (d + 1) m_Law_need [.ref 2, .int x1, .int x2, .int x3, .int x4] mem (.inl (some (.int (iI 0)))) mem1 := by
  refine Cg.of (Nat.le_of_ble_eq_true rfl) ?_
  change Rg _ _ _ _ 0 [(0, .ref 2), (1, .int x1), (2, .int x2), (3, .int x3), (4, .int x4)] [] _ _ _
  refine Rg.step 1 F_Law_need_0 rfl (fun _ => rfl) ?_
  refine Rg.step 2 F_Law_need_1 rfl (fun _ => rfl) ?_
  refine Rg.step 3 F_Law_need_2 rfl (fun _ => rfl) ?_
  refine Rg.step 4 F_Law_need_3 rfl (fun _ => rfl) ?_
  refine Rg.step 6 F_Law_need_4 rfl (fun _ => rfl) ?_
  refine Rg.call 9 F_Law_need_6 rfl (one_V rM_0_43 (by decide) (by simp) rfl rfl h2 rfl) (Nat.le_of_ble_eq_true rfl) hc ?_
  refine Rg.step 24 F_Law_need_9 rfl (fun _ => rfl) ?_
  refine Rg.step 25 F_Law_need_24 rfl (fun _ => rfl) ?_
  exact Rg.ret F_Law_need_25 rfl
theorem w_need_1 {x1 x2 x3 x4 : Int32} (h2 : mem[2]? = some (.inr (0, fs))) (hc : Cg true d m_PJ_need [.ref 2, .int x1, .int x2, .int x3, .int x4] mem (.inr mem.length) (mem ++ [.inr (13, [])])) : Cg false (d + 1) m_Law_need [.ref 2, .int x1, .int x2, .int x3, .int x4] mem (.inl (some (.int (iI 1)))) (mem ++ [.inr (13, [])]) := by
  refine Cg.of (Nat.le_of_ble_eq_true rfl) ?_
  change Rg _ _ _ _ 0 [(0, .ref 2), (1, .int x1), (2, .int x2), (3, .int x3), (4, .int x4)] [] _ _ _
  refine Rg.step 1 F_Law_need_0 rfl (fun _ => rfl) ?_
  refine Rg.step 2 F_Law_need_1 rfl (fun _ => rfl) ?_
  refine Rg.step 3 F_Law_need_2 rfl (fun _ => rfl) ?_
  refine Rg.step 4 F_Law_need_3 rfl (fun _ => rfl) ?_
  refine Rg.step 6 F_Law_need_4 rfl (fun _ => rfl) ?_
  refine Rg.callH F_Law_need_6 (one_V rM_0_43 (by decide) (by simp) rfl rfl h2 rfl) (Nat.le_of_ble_eq_true rfl) (Cg.any hc) gX (List.cons_ne_nil _ _) (h := 12) (by decide +kernel) ?_
  refine Rg.step 14 F_Law_need_12 rfl (fun _ => rfl) ?_
  refine Rg.step 15 F_Law_need_14 rfl (fun _ => rfl) ?_
  exact Rg.ret F_Law_need_15 rfl
theorem w_need_2 {x1 x2 x3 x4 : Int32} (h2 : mem[2]? = some (.inr (0, fs))) (hc : Cg true d m_PJ_need [.ref 2, .int x1, .int x2, .int x3, .int x4] mem (.inr mem.length) (mem ++ [.inr (12, [])])) : Cg false (d + 1) m_Law_need [.ref 2, .int x1, .int x2, .int x3, .int x4] mem (.inl (some (.int (iI 2)))) (mem ++ [.inr (12, [])]) := by
  refine Cg.of (Nat.le_of_ble_eq_true rfl) ?_
  change Rg _ _ _ _ 0 [(0, .ref 2), (1, .int x1), (2, .int x2), (3, .int x3), (4, .int x4)] [] _ _ _
  refine Rg.step 1 F_Law_need_0 rfl (fun _ => rfl) ?_
  refine Rg.step 2 F_Law_need_1 rfl (fun _ => rfl) ?_
  refine Rg.step 3 F_Law_need_2 rfl (fun _ => rfl) ?_
  refine Rg.step 4 F_Law_need_3 rfl (fun _ => rfl) ?_
  refine Rg.step 6 F_Law_need_4 rfl (fun _ => rfl) ?_
  refine Rg.callH F_Law_need_6 (one_V rM_0_43 (by decide) (by simp) rfl rfl h2 rfl) (Nat.le_of_ble_eq_true rfl) (Cg.any hc) gX (List.cons_ne_nil _ _) (h := 16) (by decide +kernel) ?_
  refine Rg.step 18 F_Law_need_16 rfl (fun _ => rfl) ?_
  refine Rg.step 19 F_Law_need_18 rfl (fun _ => rfl) ?_
  exact Rg.ret F_Law_need_19 rfl
theorem w_need_3 {x1 x2 x3 x4 : Int32} (h2 : mem[2]? = some (.inr (0, fs))) (hc : Cg true d m_PJ_need [.ref 2, .int x1, .int x2, .int x3, .int x4] mem (.inr mem.length) (mem ++ [.inr (14, [])])) : Cg false (d + 1) m_Law_need [.ref 2, .int x1, .int x2, .int x3, .int x4] mem (.inl (some (.int (iI 3)))) (mem ++ [.inr (14, [])]) := by
  refine Cg.of (Nat.le_of_ble_eq_true rfl) ?_
  change Rg _ _ _ _ 0 [(0, .ref 2), (1, .int x1), (2, .int x2), (3, .int x3), (4, .int x4)] [] _ _ _
  refine Rg.step 1 F_Law_need_0 rfl (fun _ => rfl) ?_
  refine Rg.step 2 F_Law_need_1 rfl (fun _ => rfl) ?_
  refine Rg.step 3 F_Law_need_2 rfl (fun _ => rfl) ?_
  refine Rg.step 4 F_Law_need_3 rfl (fun _ => rfl) ?_
  refine Rg.step 6 F_Law_need_4 rfl (fun _ => rfl) ?_
  refine Rg.callH F_Law_need_6 (one_V rM_0_43 (by decide) (by simp) rfl rfl h2 rfl) (Nat.le_of_ble_eq_true rfl) (Cg.any hc) gX (List.cons_ne_nil _ _) (h := 20) (by decide +kernel) ?_
  refine Rg.step 22 F_Law_need_20 rfl (fun _ => rfl) ?_
  refine Rg.step 23 F_Law_need_22 rfl (fun _ => rfl) ?_
  exact Rg.ret F_Law_need_23 rfl
theorem w_compare_ok {x1 x2 x3 x4 : Int32} (h2 : mem[2]? = some (.inr (0, fs))) (hc : Cg false d m_PJ_compare [.ref 2, .int x1, .int x2, .int x3, .int x4] mem (.inl none) mem1) : Cg false (d + 1) m_Law_compare [.ref 2, .int x1, .int x2, .int x3, .int x4] mem (.inl (some (.int (iI 0)))) mem1 := by
  refine Cg.of (Nat.le_of_ble_eq_true rfl) ?_
  change Rg _ _ _ _ 0 [(0, .ref 2), (1, .int x1), (2, .int x2), (3, .int x3), (4, .int x4)] [] _ _ _
  refine Rg.step 1 F_Law_compare_0 rfl (fun _ => rfl) ?_
  refine Rg.step 2 F_Law_compare_1 rfl (fun _ => rfl) ?_
  refine Rg.step 3 F_Law_compare_2 rfl (fun _ => rfl) ?_
  refine Rg.step 4 F_Law_compare_3 rfl (fun _ => rfl) ?_
  refine Rg.step 6 F_Law_compare_4 rfl (fun _ => rfl) ?_
  refine Rg.call 9 F_Law_compare_6 rfl (one_V rM_0_47 (by decide) (by simp) rfl rfl h2 rfl) (Nat.le_of_ble_eq_true rfl) hc ?_
  refine Rg.step 24 F_Law_compare_9 rfl (fun _ => rfl) ?_
  refine Rg.step 25 F_Law_compare_24 rfl (fun _ => rfl) ?_
  exact Rg.ret F_Law_compare_25 rfl
theorem w_compare_1 {x1 x2 x3 x4 : Int32} (h2 : mem[2]? = some (.inr (0, fs))) (hc : Cg true d m_PJ_compare [.ref 2, .int x1, .int x2, .int x3, .int x4] mem (.inr mem.length) (mem ++ [.inr (13, [])])) : Cg false (d + 1) m_Law_compare [.ref 2, .int x1, .int x2, .int x3, .int x4] mem (.inl (some (.int (iI 1)))) (mem ++ [.inr (13, [])]) := by
  refine Cg.of (Nat.le_of_ble_eq_true rfl) ?_
  change Rg _ _ _ _ 0 [(0, .ref 2), (1, .int x1), (2, .int x2), (3, .int x3), (4, .int x4)] [] _ _ _
  refine Rg.step 1 F_Law_compare_0 rfl (fun _ => rfl) ?_
  refine Rg.step 2 F_Law_compare_1 rfl (fun _ => rfl) ?_
  refine Rg.step 3 F_Law_compare_2 rfl (fun _ => rfl) ?_
  refine Rg.step 4 F_Law_compare_3 rfl (fun _ => rfl) ?_
  refine Rg.step 6 F_Law_compare_4 rfl (fun _ => rfl) ?_
  refine Rg.callH F_Law_compare_6 (one_V rM_0_47 (by decide) (by simp) rfl rfl h2 rfl) (Nat.le_of_ble_eq_true rfl) (Cg.any hc) gX (List.cons_ne_nil _ _) (h := 12) (by decide +kernel) ?_
  refine Rg.step 14 F_Law_compare_12 rfl (fun _ => rfl) ?_
  refine Rg.step 15 F_Law_compare_14 rfl (fun _ => rfl) ?_
  exact Rg.ret F_Law_compare_15 rfl
theorem w_compare_2 {x1 x2 x3 x4 : Int32} (h2 : mem[2]? = some (.inr (0, fs))) (hc : Cg true d m_PJ_compare [.ref 2, .int x1, .int x2, .int x3, .int x4] mem (.inr mem.length) (mem ++ [.inr (12, [])])) : Cg false (d + 1) m_Law_compare [.ref 2, .int x1, .int x2, .int x3, .int x4] mem (.inl (some (.int (iI 2)))) (mem ++ [.inr (12, [])]) := by
  refine Cg.of (Nat.le_of_ble_eq_true rfl) ?_
  change Rg _ _ _ _ 0 [(0, .ref 2), (1, .int x1), (2, .int x2), (3, .int x3), (4, .int x4)] [] _ _ _
  refine Rg.step 1 F_Law_compare_0 rfl (fun _ => rfl) ?_
  refine Rg.step 2 F_Law_compare_1 rfl (fun _ => rfl) ?_
  refine Rg.step 3 F_Law_compare_2 rfl (fun _ => rfl) ?_
  refine Rg.step 4 F_Law_compare_3 rfl (fun _ => rfl) ?_
  refine Rg.step 6 F_Law_compare_4 rfl (fun _ => rfl) ?_
  refine Rg.callH F_Law_compare_6 (one_V rM_0_47 (by decide) (by simp) rfl rfl h2 rfl) (Nat.le_of_ble_eq_true rfl) (Cg.any hc) gX (List.cons_ne_nil _ _) (h := 16) (by decide +kernel) ?_
  refine Rg.step 18 F_Law_compare_16 rfl (fun _ => rfl) ?_
  refine Rg.step 19 F_Law_compare_18 rfl (fun _ => rfl) ?_
  exact Rg.ret F_Law_compare_19 rfl
theorem w_compare_3 {x1 x2 x3 x4 : Int32} (h2 : mem[2]? = some (.inr (0, fs))) (hc : Cg true d m_PJ_compare [.ref 2, .int x1, .int x2, .int x3, .int x4] mem (.inr mem.length) (mem ++ [.inr (14, [])])) : Cg false (d + 1) m_Law_compare [.ref 2, .int x1, .int x2, .int x3, .int x4] mem (.inl (some (.int (iI 3)))) (mem ++ [.inr (14, [])]) := by
  refine Cg.of (Nat.le_of_ble_eq_true rfl) ?_
  change Rg _ _ _ _ 0 [(0, .ref 2), (1, .int x1), (2, .int x2), (3, .int x3), (4, .int x4)] [] _ _ _
  refine Rg.step 1 F_Law_compare_0 rfl (fun _ => rfl) ?_
  refine Rg.step 2 F_Law_compare_1 rfl (fun _ => rfl) ?_
  refine Rg.step 3 F_Law_compare_2 rfl (fun _ => rfl) ?_
  refine Rg.step 4 F_Law_compare_3 rfl (fun _ => rfl) ?_
  refine Rg.step 6 F_Law_compare_4 rfl (fun _ => rfl) ?_
  refine Rg.callH F_Law_compare_6 (one_V rM_0_47 (by decide) (by simp) rfl rfl h2 rfl) (Nat.le_of_ble_eq_true rfl) (Cg.any hc) gX (List.cons_ne_nil _ _) (h := 20) (by decide +kernel) ?_
  refine Rg.step 22 F_Law_compare_20 rfl (fun _ => rfl) ?_
  refine Rg.step 23 F_Law_compare_22 rfl (fun _ => rfl) ?_
  exact Rg.ret F_Law_compare_23 rfl
theorem w_make_ok {x1 x2 x3 x4 : Int32} (h2 : mem[2]? = some (.inr (0, fs))) (hc : Cg false d m_PJ_make [.ref 2, .int x1, .int x2, .int x3, .int x4] mem (.inl none) mem1) : Cg false (d + 1) m_Law_make [.ref 2, .int x1, .int x2, .int x3, .int x4] mem (.inl (some (.int (iI 0)))) mem1 := by
  refine Cg.of (Nat.le_of_ble_eq_true rfl) ?_
  change Rg _ _ _ _ 0 [(0, .ref 2), (1, .int x1), (2, .int x2), (3, .int x3), (4, .int x4)] [] _ _ _
  refine Rg.step 1 F_Law_make_0 rfl (fun _ => rfl) ?_
  refine Rg.step 2 F_Law_make_1 rfl (fun _ => rfl) ?_
  refine Rg.step 3 F_Law_make_2 rfl (fun _ => rfl) ?_
  refine Rg.step 4 F_Law_make_3 rfl (fun _ => rfl) ?_
  refine Rg.step 6 F_Law_make_4 rfl (fun _ => rfl) ?_
  refine Rg.call 9 F_Law_make_6 rfl (one_V rM_0_51 (by decide) (by simp) rfl rfl h2 rfl) (Nat.le_of_ble_eq_true rfl) hc ?_
  refine Rg.step 24 F_Law_make_9 rfl (fun _ => rfl) ?_
  refine Rg.step 25 F_Law_make_24 rfl (fun _ => rfl) ?_
  exact Rg.ret F_Law_make_25 rfl
theorem w_make_1 {x1 x2 x3 x4 : Int32} (h2 : mem[2]? = some (.inr (0, fs))) (hc : Cg true d m_PJ_make [.ref 2, .int x1, .int x2, .int x3, .int x4] mem (.inr mem.length) (mem ++ [.inr (13, [])])) : Cg false (d + 1) m_Law_make [.ref 2, .int x1, .int x2, .int x3, .int x4] mem (.inl (some (.int (iI 1)))) (mem ++ [.inr (13, [])]) := by
  refine Cg.of (Nat.le_of_ble_eq_true rfl) ?_
  change Rg _ _ _ _ 0 [(0, .ref 2), (1, .int x1), (2, .int x2), (3, .int x3), (4, .int x4)] [] _ _ _
  refine Rg.step 1 F_Law_make_0 rfl (fun _ => rfl) ?_
  refine Rg.step 2 F_Law_make_1 rfl (fun _ => rfl) ?_
  refine Rg.step 3 F_Law_make_2 rfl (fun _ => rfl) ?_
  refine Rg.step 4 F_Law_make_3 rfl (fun _ => rfl) ?_
  refine Rg.step 6 F_Law_make_4 rfl (fun _ => rfl) ?_
  refine Rg.callH F_Law_make_6 (one_V rM_0_51 (by decide) (by simp) rfl rfl h2 rfl) (Nat.le_of_ble_eq_true rfl) (Cg.any hc) gX (List.cons_ne_nil _ _) (h := 12) (by decide +kernel) ?_
  refine Rg.step 14 F_Law_make_12 rfl (fun _ => rfl) ?_
  refine Rg.step 15 F_Law_make_14 rfl (fun _ => rfl) ?_
  exact Rg.ret F_Law_make_15 rfl
theorem w_make_2 {x1 x2 x3 x4 : Int32} (h2 : mem[2]? = some (.inr (0, fs))) (hc : Cg true d m_PJ_make [.ref 2, .int x1, .int x2, .int x3, .int x4] mem (.inr mem.length) (mem ++ [.inr (12, [])])) : Cg false (d + 1) m_Law_make [.ref 2, .int x1, .int x2, .int x3, .int x4] mem (.inl (some (.int (iI 2)))) (mem ++ [.inr (12, [])]) := by
  refine Cg.of (Nat.le_of_ble_eq_true rfl) ?_
  change Rg _ _ _ _ 0 [(0, .ref 2), (1, .int x1), (2, .int x2), (3, .int x3), (4, .int x4)] [] _ _ _
  refine Rg.step 1 F_Law_make_0 rfl (fun _ => rfl) ?_
  refine Rg.step 2 F_Law_make_1 rfl (fun _ => rfl) ?_
  refine Rg.step 3 F_Law_make_2 rfl (fun _ => rfl) ?_
  refine Rg.step 4 F_Law_make_3 rfl (fun _ => rfl) ?_
  refine Rg.step 6 F_Law_make_4 rfl (fun _ => rfl) ?_
  refine Rg.callH F_Law_make_6 (one_V rM_0_51 (by decide) (by simp) rfl rfl h2 rfl) (Nat.le_of_ble_eq_true rfl) (Cg.any hc) gX (List.cons_ne_nil _ _) (h := 16) (by decide +kernel) ?_
  refine Rg.step 18 F_Law_make_16 rfl (fun _ => rfl) ?_
  refine Rg.step 19 F_Law_make_18 rfl (fun _ => rfl) ?_
  exact Rg.ret F_Law_make_19 rfl
theorem w_make_3 {x1 x2 x3 x4 : Int32} (h2 : mem[2]? = some (.inr (0, fs))) (hc : Cg true d m_PJ_make [.ref 2, .int x1, .int x2, .int x3, .int x4] mem (.inr mem.length) (mem ++ [.inr (14, [])])) : Cg false (d + 1) m_Law_make [.ref 2, .int x1, .int x2, .int x3, .int x4] mem (.inl (some (.int (iI 3)))) (mem ++ [.inr (14, [])]) := by
  refine Cg.of (Nat.le_of_ble_eq_true rfl) ?_
  change Rg _ _ _ _ 0 [(0, .ref 2), (1, .int x1), (2, .int x2), (3, .int x3), (4, .int x4)] [] _ _ _
  refine Rg.step 1 F_Law_make_0 rfl (fun _ => rfl) ?_
  refine Rg.step 2 F_Law_make_1 rfl (fun _ => rfl) ?_
  refine Rg.step 3 F_Law_make_2 rfl (fun _ => rfl) ?_
  refine Rg.step 4 F_Law_make_3 rfl (fun _ => rfl) ?_
  refine Rg.step 6 F_Law_make_4 rfl (fun _ => rfl) ?_
  refine Rg.callH F_Law_make_6 (one_V rM_0_51 (by decide) (by simp) rfl rfl h2 rfl) (Nat.le_of_ble_eq_true rfl) (Cg.any hc) gX (List.cons_ne_nil _ _) (h := 20) (by decide +kernel) ?_
  refine Rg.step 22 F_Law_make_20 rfl (fun _ => rfl) ?_
  refine Rg.step 23 F_Law_make_22 rfl (fun _ => rfl) ?_
  exact Rg.ret F_Law_make_23 rfl
theorem w_change_ok {x1 x2 x3 x4 : Int32} (h2 : mem[2]? = some (.inr (0, fs))) (hc : Cg false d m_PJ_change [.ref 2, .int x1, .int x2, .int x3, .int x4] mem (.inl none) mem1) : Cg false (d + 1) m_Law_change [.ref 2, .int x1, .int x2, .int x3, .int x4] mem (.inl (some (.int (iI 0)))) mem1 := by
  refine Cg.of (Nat.le_of_ble_eq_true rfl) ?_
  change Rg _ _ _ _ 0 [(0, .ref 2), (1, .int x1), (2, .int x2), (3, .int x3), (4, .int x4)] [] _ _ _
  refine Rg.step 1 F_Law_change_0 rfl (fun _ => rfl) ?_
  refine Rg.step 2 F_Law_change_1 rfl (fun _ => rfl) ?_
  refine Rg.step 3 F_Law_change_2 rfl (fun _ => rfl) ?_
  refine Rg.step 4 F_Law_change_3 rfl (fun _ => rfl) ?_
  refine Rg.step 6 F_Law_change_4 rfl (fun _ => rfl) ?_
  refine Rg.call 9 F_Law_change_6 rfl (one_V rM_0_54 (by decide) (by simp) rfl rfl h2 rfl) (Nat.le_of_ble_eq_true rfl) hc ?_
  refine Rg.step 24 F_Law_change_9 rfl (fun _ => rfl) ?_
  refine Rg.step 25 F_Law_change_24 rfl (fun _ => rfl) ?_
  exact Rg.ret F_Law_change_25 rfl
theorem w_change_1 {x1 x2 x3 x4 : Int32} (h2 : mem[2]? = some (.inr (0, fs))) (hc : Cg true d m_PJ_change [.ref 2, .int x1, .int x2, .int x3, .int x4] mem (.inr mem.length) (mem ++ [.inr (13, [])])) : Cg false (d + 1) m_Law_change [.ref 2, .int x1, .int x2, .int x3, .int x4] mem (.inl (some (.int (iI 1)))) (mem ++ [.inr (13, [])]) := by
  refine Cg.of (Nat.le_of_ble_eq_true rfl) ?_
  change Rg _ _ _ _ 0 [(0, .ref 2), (1, .int x1), (2, .int x2), (3, .int x3), (4, .int x4)] [] _ _ _
  refine Rg.step 1 F_Law_change_0 rfl (fun _ => rfl) ?_
  refine Rg.step 2 F_Law_change_1 rfl (fun _ => rfl) ?_
  refine Rg.step 3 F_Law_change_2 rfl (fun _ => rfl) ?_
  refine Rg.step 4 F_Law_change_3 rfl (fun _ => rfl) ?_
  refine Rg.step 6 F_Law_change_4 rfl (fun _ => rfl) ?_
  refine Rg.callH F_Law_change_6 (one_V rM_0_54 (by decide) (by simp) rfl rfl h2 rfl) (Nat.le_of_ble_eq_true rfl) (Cg.any hc) gX (List.cons_ne_nil _ _) (h := 12) (by decide +kernel) ?_
  refine Rg.step 14 F_Law_change_12 rfl (fun _ => rfl) ?_
  refine Rg.step 15 F_Law_change_14 rfl (fun _ => rfl) ?_
  exact Rg.ret F_Law_change_15 rfl
theorem w_change_2 {x1 x2 x3 x4 : Int32} (h2 : mem[2]? = some (.inr (0, fs))) (hc : Cg true d m_PJ_change [.ref 2, .int x1, .int x2, .int x3, .int x4] mem (.inr mem.length) (mem ++ [.inr (12, [])])) : Cg false (d + 1) m_Law_change [.ref 2, .int x1, .int x2, .int x3, .int x4] mem (.inl (some (.int (iI 2)))) (mem ++ [.inr (12, [])]) := by
  refine Cg.of (Nat.le_of_ble_eq_true rfl) ?_
  change Rg _ _ _ _ 0 [(0, .ref 2), (1, .int x1), (2, .int x2), (3, .int x3), (4, .int x4)] [] _ _ _
  refine Rg.step 1 F_Law_change_0 rfl (fun _ => rfl) ?_
  refine Rg.step 2 F_Law_change_1 rfl (fun _ => rfl) ?_
  refine Rg.step 3 F_Law_change_2 rfl (fun _ => rfl) ?_
  refine Rg.step 4 F_Law_change_3 rfl (fun _ => rfl) ?_
  refine Rg.step 6 F_Law_change_4 rfl (fun _ => rfl) ?_
  refine Rg.callH F_Law_change_6 (one_V rM_0_54 (by decide) (by simp) rfl rfl h2 rfl) (Nat.le_of_ble_eq_true rfl) (Cg.any hc) gX (List.cons_ne_nil _ _) (h := 16) (by decide +kernel) ?_
  refine Rg.step 18 F_Law_change_16 rfl (fun _ => rfl) ?_
  refine Rg.step 19 F_Law_change_18 rfl (fun _ => rfl) ?_
  exact Rg.ret F_Law_change_19 rfl
theorem w_change_3 {x1 x2 x3 x4 : Int32} (h2 : mem[2]? = some (.inr (0, fs))) (hc : Cg true d m_PJ_change [.ref 2, .int x1, .int x2, .int x3, .int x4] mem (.inr mem.length) (mem ++ [.inr (14, [])])) : Cg false (d + 1) m_Law_change [.ref 2, .int x1, .int x2, .int x3, .int x4] mem (.inl (some (.int (iI 3)))) (mem ++ [.inr (14, [])]) := by
  refine Cg.of (Nat.le_of_ble_eq_true rfl) ?_
  change Rg _ _ _ _ 0 [(0, .ref 2), (1, .int x1), (2, .int x2), (3, .int x3), (4, .int x4)] [] _ _ _
  refine Rg.step 1 F_Law_change_0 rfl (fun _ => rfl) ?_
  refine Rg.step 2 F_Law_change_1 rfl (fun _ => rfl) ?_
  refine Rg.step 3 F_Law_change_2 rfl (fun _ => rfl) ?_
  refine Rg.step 4 F_Law_change_3 rfl (fun _ => rfl) ?_
  refine Rg.step 6 F_Law_change_4 rfl (fun _ => rfl) ?_
  refine Rg.callH F_Law_change_6 (one_V rM_0_54 (by decide) (by simp) rfl rfl h2 rfl) (Nat.le_of_ble_eq_true rfl) (Cg.any hc) gX (List.cons_ne_nil _ _) (h := 20) (by decide +kernel) ?_
  refine Rg.step 22 F_Law_change_20 rfl (fun _ => rfl) ?_
  refine Rg.step 23 F_Law_change_22 rfl (fun _ => rfl) ?_
  exact Rg.ret F_Law_change_23 rfl
theorem w_last_ok {x1 x2 x3 : Int32} (h2 : mem[2]? = some (.inr (0, fs))) (hc : Cg false d m_PJ_last [.ref 2, .int x1, .int x2, .int x3] mem (.inl none) mem1) : Cg false (d + 1) m_Law_last [.ref 2, .int x1, .int x2, .int x3] mem (.inl (some (.int (iI 0)))) mem1 := by
  refine Cg.of (Nat.le_of_ble_eq_true rfl) ?_
  change Rg _ _ _ _ 0 [(0, .ref 2), (1, .int x1), (2, .int x2), (3, .int x3)] [] _ _ _
  refine Rg.step 1 F_Law_last_0 rfl (fun _ => rfl) ?_
  refine Rg.step 2 F_Law_last_1 rfl (fun _ => rfl) ?_
  refine Rg.step 3 F_Law_last_2 rfl (fun _ => rfl) ?_
  refine Rg.step 4 F_Law_last_3 rfl (fun _ => rfl) ?_
  refine Rg.call 7 F_Law_last_4 rfl (one_V rM_0_57 (by decide) (by simp) rfl rfl h2 rfl) (Nat.le_of_ble_eq_true rfl) hc ?_
  refine Rg.step 18 F_Law_last_7 rfl (fun _ => rfl) ?_
  refine Rg.step 19 F_Law_last_18 rfl (fun _ => rfl) ?_
  exact Rg.ret F_Law_last_19 rfl
theorem w_last_1 {x1 x2 x3 : Int32} (h2 : mem[2]? = some (.inr (0, fs))) (hc : Cg true d m_PJ_last [.ref 2, .int x1, .int x2, .int x3] mem (.inr mem.length) (mem ++ [.inr (13, [])])) : Cg false (d + 1) m_Law_last [.ref 2, .int x1, .int x2, .int x3] mem (.inl (some (.int (iI 1)))) (mem ++ [.inr (13, [])]) := by
  refine Cg.of (Nat.le_of_ble_eq_true rfl) ?_
  change Rg _ _ _ _ 0 [(0, .ref 2), (1, .int x1), (2, .int x2), (3, .int x3)] [] _ _ _
  refine Rg.step 1 F_Law_last_0 rfl (fun _ => rfl) ?_
  refine Rg.step 2 F_Law_last_1 rfl (fun _ => rfl) ?_
  refine Rg.step 3 F_Law_last_2 rfl (fun _ => rfl) ?_
  refine Rg.step 4 F_Law_last_3 rfl (fun _ => rfl) ?_
  refine Rg.callH F_Law_last_4 (one_V rM_0_57 (by decide) (by simp) rfl rfl h2 rfl) (Nat.le_of_ble_eq_true rfl) (Cg.any hc) gX (List.cons_ne_nil _ _) (h := 10) (by decide +kernel) ?_
  refine Rg.step 12 F_Law_last_10 rfl (fun _ => rfl) ?_
  refine Rg.step 13 F_Law_last_12 rfl (fun _ => rfl) ?_
  exact Rg.ret F_Law_last_13 rfl
theorem w_last_2 {x1 x2 x3 : Int32} (h2 : mem[2]? = some (.inr (0, fs))) (hc : Cg true d m_PJ_last [.ref 2, .int x1, .int x2, .int x3] mem (.inr mem.length) (mem ++ [.inr (12, [])])) : Cg false (d + 1) m_Law_last [.ref 2, .int x1, .int x2, .int x3] mem (.inl (some (.int (iI 2)))) (mem ++ [.inr (12, [])]) := by
  refine Cg.of (Nat.le_of_ble_eq_true rfl) ?_
  change Rg _ _ _ _ 0 [(0, .ref 2), (1, .int x1), (2, .int x2), (3, .int x3)] [] _ _ _
  refine Rg.step 1 F_Law_last_0 rfl (fun _ => rfl) ?_
  refine Rg.step 2 F_Law_last_1 rfl (fun _ => rfl) ?_
  refine Rg.step 3 F_Law_last_2 rfl (fun _ => rfl) ?_
  refine Rg.step 4 F_Law_last_3 rfl (fun _ => rfl) ?_
  refine Rg.callH F_Law_last_4 (one_V rM_0_57 (by decide) (by simp) rfl rfl h2 rfl) (Nat.le_of_ble_eq_true rfl) (Cg.any hc) gX (List.cons_ne_nil _ _) (h := 14) (by decide +kernel) ?_
  refine Rg.step 16 F_Law_last_14 rfl (fun _ => rfl) ?_
  refine Rg.step 17 F_Law_last_16 rfl (fun _ => rfl) ?_
  exact Rg.ret F_Law_last_17 rfl
theorem w_step_ok {x1 : Int32} {v : Int32} {y : Int64} (h2 : mem[2]? = some (.inr (0, fs))) (hc : Cg false d m_PJ_step [.ref 2, .int x1] mem (.inl (some (.int v))) mem1) (ho : mem1[218]? = some (.inl (.long, [.long y]))) : Cg false (d + 1) m_Law_step [.ref 2, .int x1, .ref 218] mem (.inl (some (.int (iI 0)))) (mem1.set 218 (.inl (.long, [.long v.toInt64]))) := by
  refine Cg.of (Nat.le_of_ble_eq_true rfl) ?_
  change Rg _ _ _ _ 0 [(0, .ref 2), (1, .int x1), (2, .ref 218)] [] _ _ _
  refine Rg.step 1 F_Law_step_0 rfl (fun _ => rfl) ?_
  refine Rg.step 2 F_Law_step_1 rfl (fun _ => rfl) ?_
  refine Rg.step 3 F_Law_step_2 rfl (fun _ => rfl) ?_
  refine Rg.step 4 F_Law_step_3 rfl (fun _ => rfl) ?_
  refine Rg.call 7 F_Law_step_4 rfl (one_V rM_0_61 (by decide) (by simp) rfl rfl h2 rfl) (Nat.le_of_ble_eq_true rfl) hc ?_
  refine Rg.step 8 F_Law_step_7 rfl (fun _ => rfl) ?_
  refine Rg.last (k := 0) 9 F_Law_step_8 rfl ho (by decide) (by decide) Nat.zero_lt_one ?_
  refine Rg.step 21 F_Law_step_9 rfl (fun _ => rfl) ?_
  refine Rg.step 22 F_Law_step_21 rfl (fun _ => rfl) ?_
  exact Rg.ret F_Law_step_22 rfl
theorem w_step_1 {x1 : Int32} (h2 : mem[2]? = some (.inr (0, fs))) (hc : Cg true d m_PJ_step [.ref 2, .int x1] mem (.inr mem.length) (mem ++ [.inr (13, [])])) : Cg false (d + 1) m_Law_step [.ref 2, .int x1, .ref 218] mem (.inl (some (.int (iI 1)))) (mem ++ [.inr (13, [])]) := by
  refine Cg.of (Nat.le_of_ble_eq_true rfl) ?_
  change Rg _ _ _ _ 0 [(0, .ref 2), (1, .int x1), (2, .ref 218)] [] _ _ _
  refine Rg.step 1 F_Law_step_0 rfl (fun _ => rfl) ?_
  refine Rg.step 2 F_Law_step_1 rfl (fun _ => rfl) ?_
  refine Rg.step 3 F_Law_step_2 rfl (fun _ => rfl) ?_
  refine Rg.step 4 F_Law_step_3 rfl (fun _ => rfl) ?_
  refine Rg.callH F_Law_step_4 (one_V rM_0_61 (by decide) (by simp) rfl rfl h2 rfl) (Nat.le_of_ble_eq_true rfl) (Cg.any hc) gX (List.cons_ne_nil _ _) (h := 12) (by decide +kernel) ?_
  refine Rg.step 13 F_Law_step_12 rfl (fun _ => rfl) ?_
  refine Rg.step 14 F_Law_step_13 rfl (fun _ => rfl) ?_
  exact Rg.ret F_Law_step_14 rfl
theorem w_step_2 {x1 : Int32} (h2 : mem[2]? = some (.inr (0, fs))) (hc : Cg true d m_PJ_step [.ref 2, .int x1] mem (.inr mem.length) (mem ++ [.inr (12, [])])) : Cg false (d + 1) m_Law_step [.ref 2, .int x1, .ref 218] mem (.inl (some (.int (iI 2)))) (mem ++ [.inr (12, [])]) := by
  refine Cg.of (Nat.le_of_ble_eq_true rfl) ?_
  change Rg _ _ _ _ 0 [(0, .ref 2), (1, .int x1), (2, .ref 218)] [] _ _ _
  refine Rg.step 1 F_Law_step_0 rfl (fun _ => rfl) ?_
  refine Rg.step 2 F_Law_step_1 rfl (fun _ => rfl) ?_
  refine Rg.step 3 F_Law_step_2 rfl (fun _ => rfl) ?_
  refine Rg.step 4 F_Law_step_3 rfl (fun _ => rfl) ?_
  refine Rg.callH F_Law_step_4 (one_V rM_0_61 (by decide) (by simp) rfl rfl h2 rfl) (Nat.le_of_ble_eq_true rfl) (Cg.any hc) gX (List.cons_ne_nil _ _) (h := 15) (by decide +kernel) ?_
  refine Rg.step 16 F_Law_step_15 rfl (fun _ => rfl) ?_
  refine Rg.step 17 F_Law_step_16 rfl (fun _ => rfl) ?_
  exact Rg.ret F_Law_step_17 rfl
theorem w_step_3 {x1 : Int32} (h2 : mem[2]? = some (.inr (0, fs))) (hc : Cg true d m_PJ_step [.ref 2, .int x1] mem (.inr mem.length) (mem ++ [.inr (14, [])])) : Cg false (d + 1) m_Law_step [.ref 2, .int x1, .ref 218] mem (.inl (some (.int (iI 3)))) (mem ++ [.inr (14, [])]) := by
  refine Cg.of (Nat.le_of_ble_eq_true rfl) ?_
  change Rg _ _ _ _ 0 [(0, .ref 2), (1, .int x1), (2, .ref 218)] [] _ _ _
  refine Rg.step 1 F_Law_step_0 rfl (fun _ => rfl) ?_
  refine Rg.step 2 F_Law_step_1 rfl (fun _ => rfl) ?_
  refine Rg.step 3 F_Law_step_2 rfl (fun _ => rfl) ?_
  refine Rg.step 4 F_Law_step_3 rfl (fun _ => rfl) ?_
  refine Rg.callH F_Law_step_4 (one_V rM_0_61 (by decide) (by simp) rfl rfl h2 rfl) (Nat.le_of_ble_eq_true rfl) (Cg.any hc) gX (List.cons_ne_nil _ _) (h := 18) (by decide +kernel) ?_
  refine Rg.step 19 F_Law_step_18 rfl (fun _ => rfl) ?_
  refine Rg.step 20 F_Law_step_19 rfl (fun _ => rfl) ?_
  exact Rg.ret F_Law_step_20 rfl
theorem w_push_ok {x1 : Int32} (h2 : mem[2]? = some (.inr (0, fs))) (hc : Cg false d m_PJ_push [.ref 2, .int x1] mem (.inl none) mem1) : Cg false (d + 1) m_Law_push [.ref 2, .int x1] mem (.inl (some (.int (iI 0)))) mem1 := by
  refine Cg.of (Nat.le_of_ble_eq_true rfl) ?_
  change Rg _ _ _ _ 0 [(0, .ref 2), (1, .int x1)] [] _ _ _
  refine Rg.step 1 F_Law_push_0 rfl (fun _ => rfl) ?_
  refine Rg.step 2 F_Law_push_1 rfl (fun _ => rfl) ?_
  refine Rg.call 5 F_Law_push_2 rfl (one_V rM_0_65 (by decide) (by simp) rfl rfl h2 rfl) (Nat.le_of_ble_eq_true rfl) hc ?_
  refine Rg.step 14 F_Law_push_5 rfl (fun _ => rfl) ?_
  refine Rg.step 15 F_Law_push_14 rfl (fun _ => rfl) ?_
  exact Rg.ret F_Law_push_15 rfl
theorem w_push_1 {x1 : Int32} (h2 : mem[2]? = some (.inr (0, fs))) (hc : Cg true d m_PJ_push [.ref 2, .int x1] mem (.inr mem.length) (mem ++ [.inr (13, [])])) : Cg false (d + 1) m_Law_push [.ref 2, .int x1] mem (.inl (some (.int (iI 1)))) (mem ++ [.inr (13, [])]) := by
  refine Cg.of (Nat.le_of_ble_eq_true rfl) ?_
  change Rg _ _ _ _ 0 [(0, .ref 2), (1, .int x1)] [] _ _ _
  refine Rg.step 1 F_Law_push_0 rfl (fun _ => rfl) ?_
  refine Rg.step 2 F_Law_push_1 rfl (fun _ => rfl) ?_
  refine Rg.callH F_Law_push_2 (one_V rM_0_65 (by decide) (by simp) rfl rfl h2 rfl) (Nat.le_of_ble_eq_true rfl) (Cg.any hc) gX (List.cons_ne_nil _ _) (h := 8) (by decide +kernel) ?_
  refine Rg.step 9 F_Law_push_8 rfl (fun _ => rfl) ?_
  refine Rg.step 10 F_Law_push_9 rfl (fun _ => rfl) ?_
  exact Rg.ret F_Law_push_10 rfl
theorem w_push_2 {x1 : Int32} (h2 : mem[2]? = some (.inr (0, fs))) (hc : Cg true d m_PJ_push [.ref 2, .int x1] mem (.inr mem.length) (mem ++ [.inr (14, [])])) : Cg false (d + 1) m_Law_push [.ref 2, .int x1] mem (.inl (some (.int (iI 2)))) (mem ++ [.inr (14, [])]) := by
  refine Cg.of (Nat.le_of_ble_eq_true rfl) ?_
  change Rg _ _ _ _ 0 [(0, .ref 2), (1, .int x1)] [] _ _ _
  refine Rg.step 1 F_Law_push_0 rfl (fun _ => rfl) ?_
  refine Rg.step 2 F_Law_push_1 rfl (fun _ => rfl) ?_
  refine Rg.callH F_Law_push_2 (one_V rM_0_65 (by decide) (by simp) rfl rfl h2 rfl) (Nat.le_of_ble_eq_true rfl) (Cg.any hc) gX (List.cons_ne_nil _ _) (h := 11) (by decide +kernel) ?_
  refine Rg.step 12 F_Law_push_11 rfl (fun _ => rfl) ?_
  refine Rg.step 13 F_Law_push_12 rfl (fun _ => rfl) ?_
  exact Rg.ret F_Law_push_13 rfl
theorem w_arrange_ok {v : Int32} {y : Int64} (h2 : mem[2]? = some (.inr (0, fs))) (hc : Cg false d m_PJ_arrange [.ref 2] mem (.inl (some (.int v))) mem1) (ho : mem1[218]? = some (.inl (.long, [.long y]))) : Cg false (d + 1) m_Law_arrange [.ref 2, .ref 218] mem (.inl (some (.int (iI 0)))) (mem1.set 218 (.inl (.long, [.long v.toInt64]))) := by
  refine Cg.of (Nat.le_of_ble_eq_true rfl) ?_
  change Rg _ _ _ _ 0 [(0, .ref 2), (1, .ref 218)] [] _ _ _
  refine Rg.step 1 F_Law_arrange_0 rfl (fun _ => rfl) ?_
  refine Rg.step 2 F_Law_arrange_1 rfl (fun _ => rfl) ?_
  refine Rg.step 3 F_Law_arrange_2 rfl (fun _ => rfl) ?_
  refine Rg.call 6 F_Law_arrange_3 rfl (one_V rM_0_68 (by decide) (by simp) rfl rfl h2 rfl) (Nat.le_of_ble_eq_true rfl) hc ?_
  refine Rg.step 7 F_Law_arrange_6 rfl (fun _ => rfl) ?_
  refine Rg.last (k := 0) 8 F_Law_arrange_7 rfl ho (by decide) (by decide) Nat.zero_lt_one ?_
  refine Rg.step 14 F_Law_arrange_8 rfl (fun _ => rfl) ?_
  refine Rg.step 15 F_Law_arrange_14 rfl (fun _ => rfl) ?_
  exact Rg.ret F_Law_arrange_15 rfl
theorem w_arrange_1 (h2 : mem[2]? = some (.inr (0, fs))) (hc : Cg true d m_PJ_arrange [.ref 2] mem (.inr mem.length) (mem ++ [.inr (14, [])])) : Cg false (d + 1) m_Law_arrange [.ref 2, .ref 218] mem (.inl (some (.int (iI 1)))) (mem ++ [.inr (14, [])]) := by
  refine Cg.of (Nat.le_of_ble_eq_true rfl) ?_
  change Rg _ _ _ _ 0 [(0, .ref 2), (1, .ref 218)] [] _ _ _
  refine Rg.step 1 F_Law_arrange_0 rfl (fun _ => rfl) ?_
  refine Rg.step 2 F_Law_arrange_1 rfl (fun _ => rfl) ?_
  refine Rg.step 3 F_Law_arrange_2 rfl (fun _ => rfl) ?_
  refine Rg.callH F_Law_arrange_3 (one_V rM_0_68 (by decide) (by simp) rfl rfl h2 rfl) (Nat.le_of_ble_eq_true rfl) (Cg.any hc) gX (List.cons_ne_nil _ _) (h := 11) (by decide +kernel) ?_
  refine Rg.step 12 F_Law_arrange_11 rfl (fun _ => rfl) ?_
  refine Rg.step 13 F_Law_arrange_12 rfl (fun _ => rfl) ?_
  exact Rg.ret F_Law_arrange_13 rfl
theorem w_seek_ok {x1 : Int32} {v : Int32} {y : Int64} (h2 : mem[2]? = some (.inr (0, fs))) (hc : Cg false d m_PJ_seek [.ref 2, .int x1] mem (.inl (some (.int v))) mem1) (ho : mem1[218]? = some (.inl (.long, [.long y]))) : Cg false (d + 1) m_Law_seek [.ref 2, .int x1, .ref 218] mem (.inl (some (.int (iI 0)))) (mem1.set 218 (.inl (.long, [.long v.toInt64]))) := by
  refine Cg.of (Nat.le_of_ble_eq_true rfl) ?_
  change Rg _ _ _ _ 0 [(0, .ref 2), (1, .int x1), (2, .ref 218)] [] _ _ _
  refine Rg.step 1 F_Law_seek_0 rfl (fun _ => rfl) ?_
  refine Rg.step 2 F_Law_seek_1 rfl (fun _ => rfl) ?_
  refine Rg.step 3 F_Law_seek_2 rfl (fun _ => rfl) ?_
  refine Rg.step 4 F_Law_seek_3 rfl (fun _ => rfl) ?_
  refine Rg.call 7 F_Law_seek_4 rfl (one_V rM_0_71 (by decide) (by simp) rfl rfl h2 rfl) (Nat.le_of_ble_eq_true rfl) hc ?_
  refine Rg.step 8 F_Law_seek_7 rfl (fun _ => rfl) ?_
  refine Rg.last (k := 0) 9 F_Law_seek_8 rfl ho (by decide) (by decide) Nat.zero_lt_one ?_
  refine Rg.step 15 F_Law_seek_9 rfl (fun _ => rfl) ?_
  refine Rg.step 16 F_Law_seek_15 rfl (fun _ => rfl) ?_
  exact Rg.ret F_Law_seek_16 rfl
theorem w_seek_1 {x1 : Int32} (h2 : mem[2]? = some (.inr (0, fs))) (hc : Cg true d m_PJ_seek [.ref 2, .int x1] mem (.inr mem.length) (mem ++ [.inr (12, [])])) : Cg false (d + 1) m_Law_seek [.ref 2, .int x1, .ref 218] mem (.inl (some (.int (iI 1)))) (mem ++ [.inr (12, [])]) := by
  refine Cg.of (Nat.le_of_ble_eq_true rfl) ?_
  change Rg _ _ _ _ 0 [(0, .ref 2), (1, .int x1), (2, .ref 218)] [] _ _ _
  refine Rg.step 1 F_Law_seek_0 rfl (fun _ => rfl) ?_
  refine Rg.step 2 F_Law_seek_1 rfl (fun _ => rfl) ?_
  refine Rg.step 3 F_Law_seek_2 rfl (fun _ => rfl) ?_
  refine Rg.step 4 F_Law_seek_3 rfl (fun _ => rfl) ?_
  refine Rg.callH F_Law_seek_4 (one_V rM_0_71 (by decide) (by simp) rfl rfl h2 rfl) (Nat.le_of_ble_eq_true rfl) (Cg.any hc) gX (List.cons_ne_nil _ _) (h := 12) (by decide +kernel) ?_
  refine Rg.step 13 F_Law_seek_12 rfl (fun _ => rfl) ?_
  refine Rg.step 14 F_Law_seek_13 rfl (fun _ => rfl) ?_
  exact Rg.ret F_Law_seek_14 rfl
theorem w_count_ok {x1 : Int32} {v : Int32} {y : Int64} (h2 : mem[2]? = some (.inr (0, fs))) (hc : Cg false d m_PJ_count [.ref 2, .int x1] mem (.inl (some (.int v))) mem1) (ho : mem1[218]? = some (.inl (.long, [.long y]))) : Cg false (d + 1) m_Law_count [.ref 2, .int x1, .ref 218] mem (.inl (some (.int (iI 0)))) (mem1.set 218 (.inl (.long, [.long v.toInt64]))) := by
  refine Cg.of (Nat.le_of_ble_eq_true rfl) ?_
  change Rg _ _ _ _ 0 [(0, .ref 2), (1, .int x1), (2, .ref 218)] [] _ _ _
  refine Rg.step 1 F_Law_count_0 rfl (fun _ => rfl) ?_
  refine Rg.step 2 F_Law_count_1 rfl (fun _ => rfl) ?_
  refine Rg.step 3 F_Law_count_2 rfl (fun _ => rfl) ?_
  refine Rg.step 4 F_Law_count_3 rfl (fun _ => rfl) ?_
  refine Rg.call 7 F_Law_count_4 rfl (one_V rM_0_74 (by decide) (by simp) rfl rfl h2 rfl) (Nat.le_of_ble_eq_true rfl) hc ?_
  refine Rg.step 8 F_Law_count_7 rfl (fun _ => rfl) ?_
  refine Rg.last (k := 0) 9 F_Law_count_8 rfl ho (by decide) (by decide) Nat.zero_lt_one ?_
  refine Rg.step 15 F_Law_count_9 rfl (fun _ => rfl) ?_
  refine Rg.step 16 F_Law_count_15 rfl (fun _ => rfl) ?_
  exact Rg.ret F_Law_count_16 rfl
theorem w_count_1 {x1 : Int32} (h2 : mem[2]? = some (.inr (0, fs))) (hc : Cg true d m_PJ_count [.ref 2, .int x1] mem (.inr mem.length) (mem ++ [.inr (13, [])])) : Cg false (d + 1) m_Law_count [.ref 2, .int x1, .ref 218] mem (.inl (some (.int (iI 1)))) (mem ++ [.inr (13, [])]) := by
  refine Cg.of (Nat.le_of_ble_eq_true rfl) ?_
  change Rg _ _ _ _ 0 [(0, .ref 2), (1, .int x1), (2, .ref 218)] [] _ _ _
  refine Rg.step 1 F_Law_count_0 rfl (fun _ => rfl) ?_
  refine Rg.step 2 F_Law_count_1 rfl (fun _ => rfl) ?_
  refine Rg.step 3 F_Law_count_2 rfl (fun _ => rfl) ?_
  refine Rg.step 4 F_Law_count_3 rfl (fun _ => rfl) ?_
  refine Rg.callH F_Law_count_4 (one_V rM_0_74 (by decide) (by simp) rfl rfl h2 rfl) (Nat.le_of_ble_eq_true rfl) (Cg.any hc) gX (List.cons_ne_nil _ _) (h := 12) (by decide +kernel) ?_
  refine Rg.step 13 F_Law_count_12 rfl (fun _ => rfl) ?_
  refine Rg.step 14 F_Law_count_13 rfl (fun _ => rfl) ?_
  exact Rg.ret F_Law_count_14 rfl
theorem w_done_ok {x1 : Int32} {v : Int32} {y : Int64} (h2 : mem[2]? = some (.inr (0, fs))) (hc : Cg false d m_PJ_done [.ref 2, .int x1] mem (.inl (some (.int v))) mem1) (ho : mem1[218]? = some (.inl (.long, [.long y]))) : Cg false (d + 1) m_Law_done [.ref 2, .int x1, .ref 218] mem (.inl (some (.int (iI 0)))) (mem1.set 218 (.inl (.long, [.long v.toInt64]))) := by
  refine Cg.of (Nat.le_of_ble_eq_true rfl) ?_
  change Rg _ _ _ _ 0 [(0, .ref 2), (1, .int x1), (2, .ref 218)] [] _ _ _
  refine Rg.step 1 F_Law_done_0 rfl (fun _ => rfl) ?_
  refine Rg.step 2 F_Law_done_1 rfl (fun _ => rfl) ?_
  refine Rg.step 3 F_Law_done_2 rfl (fun _ => rfl) ?_
  refine Rg.step 4 F_Law_done_3 rfl (fun _ => rfl) ?_
  refine Rg.call 7 F_Law_done_4 rfl (one_V rM_0_77 (by decide) (by simp) rfl rfl h2 rfl) (Nat.le_of_ble_eq_true rfl) hc ?_
  refine Rg.step 8 F_Law_done_7 rfl (fun _ => rfl) ?_
  refine Rg.last (k := 0) 9 F_Law_done_8 rfl ho (by decide) (by decide) Nat.zero_lt_one ?_
  refine Rg.step 15 F_Law_done_9 rfl (fun _ => rfl) ?_
  refine Rg.step 16 F_Law_done_15 rfl (fun _ => rfl) ?_
  exact Rg.ret F_Law_done_16 rfl
theorem w_done_1 {x1 : Int32} (h2 : mem[2]? = some (.inr (0, fs))) (hc : Cg true d m_PJ_done [.ref 2, .int x1] mem (.inr mem.length) (mem ++ [.inr (13, [])])) : Cg false (d + 1) m_Law_done [.ref 2, .int x1, .ref 218] mem (.inl (some (.int (iI 1)))) (mem ++ [.inr (13, [])]) := by
  refine Cg.of (Nat.le_of_ble_eq_true rfl) ?_
  change Rg _ _ _ _ 0 [(0, .ref 2), (1, .int x1), (2, .ref 218)] [] _ _ _
  refine Rg.step 1 F_Law_done_0 rfl (fun _ => rfl) ?_
  refine Rg.step 2 F_Law_done_1 rfl (fun _ => rfl) ?_
  refine Rg.step 3 F_Law_done_2 rfl (fun _ => rfl) ?_
  refine Rg.step 4 F_Law_done_3 rfl (fun _ => rfl) ?_
  refine Rg.callH F_Law_done_4 (one_V rM_0_77 (by decide) (by simp) rfl rfl h2 rfl) (Nat.le_of_ble_eq_true rfl) (Cg.any hc) gX (List.cons_ne_nil _ _) (h := 12) (by decide +kernel) ?_
  refine Rg.step 13 F_Law_done_12 rfl (fun _ => rfl) ?_
  refine Rg.step 14 F_Law_done_13 rfl (fun _ => rfl) ?_
  exact Rg.ret F_Law_done_14 rfl
theorem w_above_ok {x1 x2 : Int32} {v y : Int64} (h2 : mem[2]? = some (.inr (0, fs))) (hc : Cg false d m_PJ_above [.ref 2, .int x1, .int x2] mem (.inl (some (.long v))) mem1) (ho : mem1[218]? = some (.inl (.long, [.long y]))) : Cg false (d + 1) m_Law_above [.ref 2, .int x1, .int x2, .ref 218] mem (.inl (some (.int (iI 0)))) (mem1.set 218 (.inl (.long, [.long v]))) := by
  refine Cg.of (Nat.le_of_ble_eq_true rfl) ?_
  change Rg _ _ _ _ 0 [(0, .ref 2), (1, .int x1), (2, .int x2), (3, .ref 218)] [] _ _ _
  refine Rg.step 1 F_Law_above_0 rfl (fun _ => rfl) ?_
  refine Rg.step 2 F_Law_above_1 rfl (fun _ => rfl) ?_
  refine Rg.step 3 F_Law_above_2 rfl (fun _ => rfl) ?_
  refine Rg.step 4 F_Law_above_3 rfl (fun _ => rfl) ?_
  refine Rg.step 5 F_Law_above_4 rfl (fun _ => rfl) ?_
  refine Rg.call 8 F_Law_above_5 rfl (one_V rM_0_80 (by decide) (by simp) rfl rfl h2 rfl) (Nat.le_of_ble_eq_true rfl) hc ?_
  refine Rg.last (k := 0) 9 F_Law_above_8 rfl ho (by decide) (by decide) Nat.zero_lt_one ?_
  refine Rg.step 20 F_Law_above_9 rfl (fun _ => rfl) ?_
  refine Rg.step 21 F_Law_above_20 rfl (fun _ => rfl) ?_
  exact Rg.ret F_Law_above_21 rfl
theorem w_above_1 {x1 x2 : Int32} (h2 : mem[2]? = some (.inr (0, fs))) (hc : Cg true d m_PJ_above [.ref 2, .int x1, .int x2] mem (.inr mem.length) (mem ++ [.inr (12, [])])) : Cg false (d + 1) m_Law_above [.ref 2, .int x1, .int x2, .ref 218] mem (.inl (some (.int (iI 1)))) (mem ++ [.inr (12, [])]) := by
  refine Cg.of (Nat.le_of_ble_eq_true rfl) ?_
  change Rg _ _ _ _ 0 [(0, .ref 2), (1, .int x1), (2, .int x2), (3, .ref 218)] [] _ _ _
  refine Rg.step 1 F_Law_above_0 rfl (fun _ => rfl) ?_
  refine Rg.step 2 F_Law_above_1 rfl (fun _ => rfl) ?_
  refine Rg.step 3 F_Law_above_2 rfl (fun _ => rfl) ?_
  refine Rg.step 4 F_Law_above_3 rfl (fun _ => rfl) ?_
  refine Rg.step 5 F_Law_above_4 rfl (fun _ => rfl) ?_
  refine Rg.callH F_Law_above_5 (one_V rM_0_80 (by decide) (by simp) rfl rfl h2 rfl) (Nat.le_of_ble_eq_true rfl) (Cg.any hc) gX (List.cons_ne_nil _ _) (h := 12) (by decide +kernel) ?_
  refine Rg.step 14 F_Law_above_12 rfl (fun _ => rfl) ?_
  refine Rg.step 15 F_Law_above_14 rfl (fun _ => rfl) ?_
  exact Rg.ret F_Law_above_15 rfl
theorem w_above_2 {x1 x2 : Int32} (h2 : mem[2]? = some (.inr (0, fs))) (hc : Cg true d m_PJ_above [.ref 2, .int x1, .int x2] mem (.inr mem.length) (mem ++ [.inr (13, [])])) : Cg false (d + 1) m_Law_above [.ref 2, .int x1, .int x2, .ref 218] mem (.inl (some (.int (iI 2)))) (mem ++ [.inr (13, [])]) := by
  refine Cg.of (Nat.le_of_ble_eq_true rfl) ?_
  change Rg _ _ _ _ 0 [(0, .ref 2), (1, .int x1), (2, .int x2), (3, .ref 218)] [] _ _ _
  refine Rg.step 1 F_Law_above_0 rfl (fun _ => rfl) ?_
  refine Rg.step 2 F_Law_above_1 rfl (fun _ => rfl) ?_
  refine Rg.step 3 F_Law_above_2 rfl (fun _ => rfl) ?_
  refine Rg.step 4 F_Law_above_3 rfl (fun _ => rfl) ?_
  refine Rg.step 5 F_Law_above_4 rfl (fun _ => rfl) ?_
  refine Rg.callH F_Law_above_5 (one_V rM_0_80 (by decide) (by simp) rfl rfl h2 rfl) (Nat.le_of_ble_eq_true rfl) (Cg.any hc) gX (List.cons_ne_nil _ _) (h := 16) (by decide +kernel) ?_
  refine Rg.step 18 F_Law_above_16 rfl (fun _ => rfl) ?_
  refine Rg.step 19 F_Law_above_18 rfl (fun _ => rfl) ?_
  exact Rg.ret F_Law_above_19 rfl
theorem w_below_ok {x1 x2 : Int32} {v y : Int64} (h2 : mem[2]? = some (.inr (0, fs))) (hc : Cg false d m_PJ_below [.ref 2, .int x1, .int x2] mem (.inl (some (.long v))) mem1) (ho : mem1[218]? = some (.inl (.long, [.long y]))) : Cg false (d + 1) m_Law_below [.ref 2, .int x1, .int x2, .ref 218] mem (.inl (some (.int (iI 0)))) (mem1.set 218 (.inl (.long, [.long v]))) := by
  refine Cg.of (Nat.le_of_ble_eq_true rfl) ?_
  change Rg _ _ _ _ 0 [(0, .ref 2), (1, .int x1), (2, .int x2), (3, .ref 218)] [] _ _ _
  refine Rg.step 1 F_Law_below_0 rfl (fun _ => rfl) ?_
  refine Rg.step 2 F_Law_below_1 rfl (fun _ => rfl) ?_
  refine Rg.step 3 F_Law_below_2 rfl (fun _ => rfl) ?_
  refine Rg.step 4 F_Law_below_3 rfl (fun _ => rfl) ?_
  refine Rg.step 5 F_Law_below_4 rfl (fun _ => rfl) ?_
  refine Rg.call 8 F_Law_below_5 rfl (one_V rM_0_84 (by decide) (by simp) rfl rfl h2 rfl) (Nat.le_of_ble_eq_true rfl) hc ?_
  refine Rg.last (k := 0) 9 F_Law_below_8 rfl ho (by decide) (by decide) Nat.zero_lt_one ?_
  refine Rg.step 20 F_Law_below_9 rfl (fun _ => rfl) ?_
  refine Rg.step 21 F_Law_below_20 rfl (fun _ => rfl) ?_
  exact Rg.ret F_Law_below_21 rfl
theorem w_below_1 {x1 x2 : Int32} (h2 : mem[2]? = some (.inr (0, fs))) (hc : Cg true d m_PJ_below [.ref 2, .int x1, .int x2] mem (.inr mem.length) (mem ++ [.inr (12, [])])) : Cg false (d + 1) m_Law_below [.ref 2, .int x1, .int x2, .ref 218] mem (.inl (some (.int (iI 1)))) (mem ++ [.inr (12, [])]) := by
  refine Cg.of (Nat.le_of_ble_eq_true rfl) ?_
  change Rg _ _ _ _ 0 [(0, .ref 2), (1, .int x1), (2, .int x2), (3, .ref 218)] [] _ _ _
  refine Rg.step 1 F_Law_below_0 rfl (fun _ => rfl) ?_
  refine Rg.step 2 F_Law_below_1 rfl (fun _ => rfl) ?_
  refine Rg.step 3 F_Law_below_2 rfl (fun _ => rfl) ?_
  refine Rg.step 4 F_Law_below_3 rfl (fun _ => rfl) ?_
  refine Rg.step 5 F_Law_below_4 rfl (fun _ => rfl) ?_
  refine Rg.callH F_Law_below_5 (one_V rM_0_84 (by decide) (by simp) rfl rfl h2 rfl) (Nat.le_of_ble_eq_true rfl) (Cg.any hc) gX (List.cons_ne_nil _ _) (h := 12) (by decide +kernel) ?_
  refine Rg.step 14 F_Law_below_12 rfl (fun _ => rfl) ?_
  refine Rg.step 15 F_Law_below_14 rfl (fun _ => rfl) ?_
  exact Rg.ret F_Law_below_15 rfl
theorem w_below_2 {x1 x2 : Int32} (h2 : mem[2]? = some (.inr (0, fs))) (hc : Cg true d m_PJ_below [.ref 2, .int x1, .int x2] mem (.inr mem.length) (mem ++ [.inr (13, [])])) : Cg false (d + 1) m_Law_below [.ref 2, .int x1, .int x2, .ref 218] mem (.inl (some (.int (iI 2)))) (mem ++ [.inr (13, [])]) := by
  refine Cg.of (Nat.le_of_ble_eq_true rfl) ?_
  change Rg _ _ _ _ 0 [(0, .ref 2), (1, .int x1), (2, .int x2), (3, .ref 218)] [] _ _ _
  refine Rg.step 1 F_Law_below_0 rfl (fun _ => rfl) ?_
  refine Rg.step 2 F_Law_below_1 rfl (fun _ => rfl) ?_
  refine Rg.step 3 F_Law_below_2 rfl (fun _ => rfl) ?_
  refine Rg.step 4 F_Law_below_3 rfl (fun _ => rfl) ?_
  refine Rg.step 5 F_Law_below_4 rfl (fun _ => rfl) ?_
  refine Rg.callH F_Law_below_5 (one_V rM_0_84 (by decide) (by simp) rfl rfl h2 rfl) (Nat.le_of_ble_eq_true rfl) (Cg.any hc) gX (List.cons_ne_nil _ _) (h := 16) (by decide +kernel) ?_
  refine Rg.step 18 F_Law_below_16 rfl (fun _ => rfl) ?_
  refine Rg.step 19 F_Law_below_18 rfl (fun _ => rfl) ?_
  exact Rg.ret F_Law_below_19 rfl
theorem w_holds_ok {x1 : Int32} {v : Int32} {y : Int64} (h2 : mem[2]? = some (.inr (0, fs))) (hc : Cg false d m_PJ_holds [.ref 2, .int x1] mem (.inl (some (.int v))) mem1) (ho : mem1[218]? = some (.inl (.long, [.long y]))) (hv : v = 0 ∨ v = 1) : Cg false (d + 1) m_Law_holds [.ref 2, .int x1, .ref 218] mem (.inl (some (.int (iI 0)))) (mem1.set 218 (.inl (.long, [.long v.toInt64]))) := by
  refine Cg.of (Nat.le_of_ble_eq_true rfl) ?_
  change Rg _ _ _ _ 0 [(0, .ref 2), (1, .int x1), (2, .ref 218)] [] _ _ _
  refine Rg.step 1 F_Law_holds_0 rfl (fun _ => rfl) ?_
  refine Rg.step 2 F_Law_holds_1 rfl (fun _ => rfl) ?_
  refine Rg.step 3 F_Law_holds_2 rfl (fun _ => rfl) ?_
  refine Rg.step 4 F_Law_holds_3 rfl (fun _ => rfl) ?_
  refine Rg.call 7 F_Law_holds_4 rfl (one_V rM_0_87 (by decide) (by simp) rfl rfl h2 rfl) (Nat.le_of_ble_eq_true rfl) hc ?_
  rcases hv with hv | hv <;> subst hv
  · refine Rg.ifeq 14 10 F_Law_holds_7 rfl rfl (fun _ => ?_) (fun z => absurd rfl z)
    refine Rg.step 15 F_Law_holds_14 rfl (fun _ => rfl) ?_
    refine Rg.last (k := 0) 16 F_Law_holds_15 rfl ho (by decide) (by decide) Nat.zero_lt_one ?_
    refine Rg.step 22 F_Law_holds_16 rfl (fun _ => rfl) ?_
    refine Rg.step 23 F_Law_holds_22 rfl (fun _ => rfl) ?_
    exact Rg.ret F_Law_holds_23 rfl
  · refine Rg.ifeq 14 10 F_Law_holds_7 rfl rfl (fun z => absurd z (by decide)) (fun _ => ?_)
    refine Rg.step 11 F_Law_holds_10 rfl (fun _ => rfl) ?_
    refine Rg.step 15 F_Law_holds_11 rfl (fun _ => rfl) ?_
    refine Rg.last (k := 0) 16 F_Law_holds_15 rfl ho (by decide) (by decide) Nat.zero_lt_one ?_
    refine Rg.step 22 F_Law_holds_16 rfl (fun _ => rfl) ?_
    refine Rg.step 23 F_Law_holds_22 rfl (fun _ => rfl) ?_
    exact Rg.ret F_Law_holds_23 rfl
theorem w_holds_1 {x1 : Int32} (h2 : mem[2]? = some (.inr (0, fs))) (hc : Cg true d m_PJ_holds [.ref 2, .int x1] mem (.inr mem.length) (mem ++ [.inr (13, [])])) : Cg false (d + 1) m_Law_holds [.ref 2, .int x1, .ref 218] mem (.inl (some (.int (iI 1)))) (mem ++ [.inr (13, [])]) := by
  refine Cg.of (Nat.le_of_ble_eq_true rfl) ?_
  change Rg _ _ _ _ 0 [(0, .ref 2), (1, .int x1), (2, .ref 218)] [] _ _ _
  refine Rg.step 1 F_Law_holds_0 rfl (fun _ => rfl) ?_
  refine Rg.step 2 F_Law_holds_1 rfl (fun _ => rfl) ?_
  refine Rg.step 3 F_Law_holds_2 rfl (fun _ => rfl) ?_
  refine Rg.step 4 F_Law_holds_3 rfl (fun _ => rfl) ?_
  refine Rg.callH F_Law_holds_4 (one_V rM_0_87 (by decide) (by simp) rfl rfl h2 rfl) (Nat.le_of_ble_eq_true rfl) (Cg.any hc) gX (List.cons_ne_nil _ _) (h := 19) (by decide +kernel) ?_
  refine Rg.step 20 F_Law_holds_19 rfl (fun _ => rfl) ?_
  refine Rg.step 21 F_Law_holds_20 rfl (fun _ => rfl) ?_
  exact Rg.ret F_Law_holds_21 rfl
end R94
