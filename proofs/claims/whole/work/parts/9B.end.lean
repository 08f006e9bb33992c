/-! The law from its beginning to its end. -/
section R9B
variable {s0 : AC} {n0 N : Nat} {sc : Int → Int}
theorem law_end {n : Nat} {mem : AM} {i : Int} (hs : s0 = .inl (.int, aI N sc)) (hN : N ≤ 2560) (hb : ∀ z, -2147483648 ≤ sc z ∧ sc z < 2147483648) (h : INV s0 n mem) (hi : 0 ≤ i ∧ i ≤ 2565 ∧ (N : Int) < i + 5) : Rg false 31 m_Law n0 23 [(4, .int (iI i)), (0, .ref 0), (1, .ref 2), (2, .ref 168), (3, .ref 218)] [] mem (.inl (some (.int 1))) mem := by
  have h0 := h.k0
  rw [hs] at h0
  refine Rg.step 25 F_Law_23 rfl (fun _ => rfl) ?_
  refine Rg.step 26 F_Law_25 rfl (fun _ => rfl) ?_
  refine Rg.lenA 27 F_Law_26 rfl h0 (aI_len _ _) ?_
  refine Rg.step 28 F_Law_27 rfl (fun _ => rfl) ?_
  refine Rg.subI 29 F_Law_28 rfl ?_
  refine Rg.icgtI 1465 32 F_Law_29 rfl rfl (by omega) (by omega) (fun _ => ?_) (fun z => by omega)
  refine Rg.step 1466 F_Law_1465 rfl (fun _ => rfl) ?_
  exact Rg.ret F_Law_1466 rfl
theorem law_loop (hs : s0 = .inl (.int, aI N sc)) (hN : N ≤ 2560) (hb : ∀ z, -2147483648 ≤ sc z ∧ sc z < 2147483648) : ∀ (m k : Nat) (mem : AM), (N : Int) < 5 * (k : Int) + 5 * (m : Int) + 5 → k ≤ 512 → INV s0 k mem → ∃ mem', mem'.length ≤ 72000 ∧ Rg false 31 m_Law n0 23 [(4, .int (iI (5 * (k : Int)))), (0, .ref 0), (1, .ref 2), (2, .ref 168), (3, .ref 218)] [] mem (.inl (some (.int 1))) mem' := by
  intro m
  induction m with
  | zero =>
    intro k mem hm hk h
    have := h.len
    exact ⟨mem, by omega, law_end hs hN hb h (by omega)⟩
  | succ m ih =>
    intro k mem hm hk h
    by_cases hx : (N : Int) < 5 * (k : Int) + 5
    · have := h.len
      exact ⟨mem, by omega, law_end hs hN hb h (by omega)⟩
    · obtain ⟨mem2, hI, hj⟩ := law_step (n0 := n0) hs hN (i := 5 * (k : Int)) (by omega) hb h
      obtain ⟨mem', hl, hr⟩ := ih (k + 1) mem2 (by omega) (by omega) hI
      refine ⟨mem', hl, ?_⟩
      have h0 := h.k0
      rw [hs] at h0
      refine Rg.step 25 F_Law_23 rfl (fun _ => rfl) ?_
      refine Rg.step 26 F_Law_25 rfl (fun _ => rfl) ?_
      refine Rg.lenA 27 F_Law_26 rfl h0 (aI_len _ _) ?_
      refine Rg.step 28 F_Law_27 rfl (fun _ => rfl) ?_
      refine Rg.subI 29 F_Law_28 rfl ?_
      refine Rg.icgtI 1465 32 F_Law_29 rfl rfl (by omega) (by omega) (fun z => by omega) (fun _ => ?_)
      refine hj _ _ ?_
      refine Rg.inc 1462 F_Law_1459 rfl rfl (by decide) ?_
      refine Rg.step 23 F_Law_1462 rfl (fun _ => rfl) ?_
      rw [show 5 * (k : Int) + 5 = 5 * ((k + 1 : Nat) : Int) by omega]
      exact Rg.weak hr (by simp [lput1, lput2, Value.category, fi0, fi1, fi2, fi3] <;> first | rfl | exact ⟨rfl, rfl⟩) (by simp [lput1, lput2, Value.category, fi0, fi1, fi2, fi3] <;> first | rfl | exact ⟨rfl, rfl⟩)
theorem inv_start : INV s0 0 (MR (MC s0 (.inl (.object "java/lang/Object", [])) (fun _ => 0) (fun _ => 1) (fun _ => False) (fun _ => False) 1 0 0 (fun _ => False) (fun _ => 0) (fun _ => 1) (up1 (fun _ => 0) 0 (nN 1 1000)) (up1 (fun _ => 1) 0 (nD 1 1000)) (fun _ => -1) (fun _ => 0) (fun _ => 1) 0 0 (fun _ => False) (fun _ => 0) (fun _ => 0) (fun _ => 1) (fun _ => 0) (fun _ => 1) (fun _ => 0) 0 0 (-1) (fun _ => False) (fun _ => 0) (fun _ => 1) (fun _ => False) 0 (fun _ => 0) (fun _ => 1) (fun _ => 0) (fun _ => 0) (fun _ => 1) (fun _ => False) (fun _ => 0) (fun _ => 1) (fun _ => False) (fun _ => 0) (fun _ => 1) 0 0 (fun _ => False) 0 0 (fun _ => 0) (fun _ => 0) (fun _ => 0) (fun _ => 0) (fun _ => 0) (fun _ => 0) (fun _ => 1) (fun _ => 0) (fun _ => 1) (fun _ => False) (fun _ => 0) (fun _ => 0) (fun _ => 0) (fun _ => 1) (fun _ _ => False) (fun _ _ => 0) (fun _ _ => 1) []) 0 0 1 0 1 1 1000 (fun _ => False) (fun _ => 0) (fun _ => (1 : Int)) (fun _ => (-1 : Int)) (fun _ => (-1 : Int)) (fun _ => 0) (fun _ => (1 : Int)) 0 (fun _ => 0) (fun _ => 0) (fun _ => 0) (fun _ => 0) (fun _ => 0) (fun _ => 0) (fun _ => 0) (fun _ => 0) (fun _ => 0) (fun _ => 0) (fun _ => 0) (fun _ => 0) (fun _ => 0) (fun _ => 0) (fun _ => 0) 0 (fun _ => 0) (fun _ => 0) (fun _ => 0) (fun _ => 0) (fun _ => 0) 0 (fun _ => 0) 0 (fun _ => 0) 0 (fun _ => 0) (fun _ => 0) 0 (fun _ => False) (fun _ => 0) (fun _ => 0) (fun _ => False) (fun _ => 0) (fun _ => 0) 0 0 0 (-1) (fun _ => False) (fun _ => 0) (fun _ => 0) 0 0 (fun _ => 0) (fun _ => 0) (fun _ => False) (fun _ => False) (fun _ => 0) (fun _ => 0) (fun _ => 0) (fun _ => 0) (fun _ => 0) [OUTC 0]) :=
  INV.of (post := []) (ab := fun _ => 0) ⟨rfl, rfl, rfl, rfl⟩ (by omega) (by decide) (by omega) ⟨by rw [up1_eq]; decide, by rw [up1_eq]; decide⟩ (by decide) (fun i _ _ => ⟨False.elim, fun z => by have := z.2; omega⟩) (fun i _ _ => ⟨False.elim, fun z => by have := z.2; omega⟩)
    ⟨by omega, fun k => by dsimp only; omega, fun k => by dsimp only; omega, fun k => by dsimp only; omega, by omega, fun k => by dsimp only; omega, fun k => by dsimp only; omega, fun k => by dsimp only; omega, fun k => by dsimp only; omega, fun k => by dsimp only; omega, fun a k z1 z2 => by omega, fun k => by dsimp only; omega, fun k => by dsimp only; omega, fun k => by dsimp only; omega, fun k => by dsimp only; omega, fun k => by dsimp only; omega, fun a k z1 z2 => by omega, fun k => by dsimp only; omega, fun k => by dsimp only; omega, fun k z1 z2 => by omega, fun k => by dsimp only; omega⟩
    (by omega) (by omega) (fun s => by omega) (fun s z1 z2 => by omega) (fun s => by omega) (fun s z1 z2 => by omega) (fun s z1 z2 => by omega) (fun k => by omega) (fun k z1 z2 => by omega) (fun k z1 z2 => by omega) (fun p => ⟨False.elim, fun ⟨j, j1, j2, _⟩ => by omega⟩) (Or.inl rfl) (fun z => absurd z (by decide)) (fun a z1 z2 => by omega) (fun x y z1 z2 z3 => by omega) (Or.inl ⟨rfl, rfl⟩) (Nat.zero_le _)
theorem law_run {o : Option Value ⊕ Nat} {mem' : AM} (hk : Rg false 31 m_Law n0 23 [(4, .int (iI 0)), (0, .ref 0), (1, .ref 2), (2, .ref 168), (3, .ref 218)] [] (MR (MC s0 (.inl (.object "java/lang/Object", [])) (fun _ => 0) (fun _ => 1) (fun _ => False) (fun _ => False) 1 0 0 (fun _ => False) (fun _ => 0) (fun _ => 1) (up1 (fun _ => 0) 0 (nN 1 1000)) (up1 (fun _ => 1) 0 (nD 1 1000)) (fun _ => -1) (fun _ => 0) (fun _ => 1) 0 0 (fun _ => False) (fun _ => 0) (fun _ => 0) (fun _ => 1) (fun _ => 0) (fun _ => 1) (fun _ => 0) 0 0 (-1) (fun _ => False) (fun _ => 0) (fun _ => 1) (fun _ => False) 0 (fun _ => 0) (fun _ => 1) (fun _ => 0) (fun _ => 0) (fun _ => 1) (fun _ => False) (fun _ => 0) (fun _ => 1) (fun _ => False) (fun _ => 0) (fun _ => 1) 0 0 (fun _ => False) 0 0 (fun _ => 0) (fun _ => 0) (fun _ => 0) (fun _ => 0) (fun _ => 0) (fun _ => 0) (fun _ => 1) (fun _ => 0) (fun _ => 1) (fun _ => False) (fun _ => 0) (fun _ => 0) (fun _ => 0) (fun _ => 1) (fun _ _ => False) (fun _ _ => 0) (fun _ _ => 1) []) 0 0 1 0 1 1 1000 (fun _ => False) (fun _ => 0) (fun _ => (1 : Int)) (fun _ => (-1 : Int)) (fun _ => (-1 : Int)) (fun _ => 0) (fun _ => (1 : Int)) 0 (fun _ => 0) (fun _ => 0) (fun _ => 0) (fun _ => 0) (fun _ => 0) (fun _ => 0) (fun _ => 0) (fun _ => 0) (fun _ => 0) (fun _ => 0) (fun _ => 0) (fun _ => 0) (fun _ => 0) (fun _ => 0) (fun _ => 0) 0 (fun _ => 0) (fun _ => 0) (fun _ => 0) (fun _ => 0) (fun _ => 0) 0 (fun _ => 0) 0 (fun _ => 0) 0 (fun _ => 0) (fun _ => 0) 0 (fun _ => False) (fun _ => 0) (fun _ => 0) (fun _ => False) (fun _ => 0) (fun _ => 0) 0 0 0 (-1) (fun _ => False) (fun _ => 0) (fun _ => 0) 0 0 (fun _ => 0) (fun _ => 0) (fun _ => False) (fun _ => False) (fun _ => 0) (fun _ => 0) (fun _ => 0) (fun _ => 0) (fun _ => 0) [OUTC 0]) o mem') : Rg false 31 m_Law n0 0 [(0, .ref 0)] [] [s0, (.inl (.object "java/lang/Object", []))] o mem' := by
  refine Rg.new 3 F_Law_0 rfl rC_0_8 rfl rfl (by decide) rfl ?_
  refine Rg.step 4 F_Law_3 rfl (fun _ => rfl) ?_
  refine Rg.call 7 F_Law_4 rfl (one_I (by decide +kernel) rM_0_91 (by decide) (by simp) rfl rfl) (Nat.le_of_ble_eq_true rfl) (c_PJ_init (d := 26) (m := [s0, (.inl (.object "java/lang/Object", []))]) (b := 2) rfl (by omega)) ?_
  rw [mc_new]
  refine Rg.step 8 F_Law_7 rfl (fun _ => rfl) ?_
  refine Rg.new 11 F_Law_8 rfl rC_0_92 rfl rfl (by decide) rfl ?_
  rw [mc_len]
  refine Rg.step 12 F_Law_11 rfl (fun _ => rfl) ?_
  refine Rg.call 15 F_Law_12 rfl (one_I (by decide +kernel) rM_0_94 (by decide) (by simp) rfl rfl) (Nat.le_of_ble_eq_true rfl) (c_Mo_init (d := 30) (pre := (MC s0 (.inl (.object "java/lang/Object", [])) (fun _ => 0) (fun _ => 1) (fun _ => False) (fun _ => False) 1 0 0 (fun _ => False) (fun _ => 0) (fun _ => 1) (up1 (fun _ => 0) 0 (nN 1 1000)) (up1 (fun _ => 1) 0 (nD 1 1000)) (fun _ => -1) (fun _ => 0) (fun _ => 1) 0 0 (fun _ => False) (fun _ => 0) (fun _ => 0) (fun _ => 1) (fun _ => 0) (fun _ => 1) (fun _ => 0) 0 0 (-1) (fun _ => False) (fun _ => 0) (fun _ => 1) (fun _ => False) 0 (fun _ => 0) (fun _ => 1) (fun _ => 0) (fun _ => 0) (fun _ => 1) (fun _ => False) (fun _ => 0) (fun _ => 1) (fun _ => False) (fun _ => 0) (fun _ => 1) 0 0 (fun _ => False) 0 0 (fun _ => 0) (fun _ => 0) (fun _ => 0) (fun _ => 0) (fun _ => 0) (fun _ => 0) (fun _ => 1) (fun _ => 0) (fun _ => 1) (fun _ => False) (fun _ => 0) (fun _ => 0) (fun _ => 0) (fun _ => 1) (fun _ _ => False) (fun _ _ => 0) (fun _ _ => 1) [])) mc_len) ?_
  refine Rg.step 16 F_Law_15 rfl (fun _ => rfl) ?_
  refine Rg.step 17 F_Law_16 rfl (fun _ => rfl) ?_
  refine Rg.newa (k := 1) 19 F_Law_17 rfl rfl (by decide) (by decide) ?_
  have e1 : (MR (MC s0 (.inl (.object "java/lang/Object", [])) (fun _ => 0) (fun _ => 1) (fun _ => False) (fun _ => False) 1 0 0 (fun _ => False) (fun _ => 0) (fun _ => 1) (up1 (fun _ => 0) 0 (nN 1 1000)) (up1 (fun _ => 1) 0 (nD 1 1000)) (fun _ => -1) (fun _ => 0) (fun _ => 1) 0 0 (fun _ => False) (fun _ => 0) (fun _ => 0) (fun _ => 1) (fun _ => 0) (fun _ => 1) (fun _ => 0) 0 0 (-1) (fun _ => False) (fun _ => 0) (fun _ => 1) (fun _ => False) 0 (fun _ => 0) (fun _ => 1) (fun _ => 0) (fun _ => 0) (fun _ => 1) (fun _ => False) (fun _ => 0) (fun _ => 1) (fun _ => False) (fun _ => 0) (fun _ => 1) 0 0 (fun _ => False) 0 0 (fun _ => 0) (fun _ => 0) (fun _ => 0) (fun _ => 0) (fun _ => 0) (fun _ => 0) (fun _ => 1) (fun _ => 0) (fun _ => 1) (fun _ => False) (fun _ => 0) (fun _ => 0) (fun _ => 0) (fun _ => 1) (fun _ _ => False) (fun _ _ => 0) (fun _ _ => 1) []) 0 0 1 0 1 1 1000 (fun _ => False) (fun _ => 0) (fun _ => (1 : Int)) (fun _ => (-1 : Int)) (fun _ => (-1 : Int)) (fun _ => 0) (fun _ => (1 : Int)) 0 (fun _ => 0) (fun _ => 0) (fun _ => 0) (fun _ => 0) (fun _ => 0) (fun _ => 0) (fun _ => 0) (fun _ => 0) (fun _ => 0) (fun _ => 0) (fun _ => 0) (fun _ => 0) (fun _ => 0) (fun _ => 0) (fun _ => 0) 0 (fun _ => 0) (fun _ => 0) (fun _ => 0) (fun _ => 0) (fun _ => 0) 0 (fun _ => 0) 0 (fun _ => 0) 0 (fun _ => 0) (fun _ => 0) 0 (fun _ => False) (fun _ => 0) (fun _ => 0) (fun _ => False) (fun _ => 0) (fun _ => 0) 0 0 0 (-1) (fun _ => False) (fun _ => 0) (fun _ => 0) 0 0 (fun _ => 0) (fun _ => 0) (fun _ => False) (fun _ => False) (fun _ => 0) (fun _ => 0) (fun _ => 0) (fun _ => 0) (fun _ => 0) []).length = 218 := by
    unfold MR
    rw [List.length_append, mc_len, List.length_append, encR_len]
    rfl
  have e2 : (MR (MC s0 (.inl (.object "java/lang/Object", [])) (fun _ => 0) (fun _ => 1) (fun _ => False) (fun _ => False) 1 0 0 (fun _ => False) (fun _ => 0) (fun _ => 1) (up1 (fun _ => 0) 0 (nN 1 1000)) (up1 (fun _ => 1) 0 (nD 1 1000)) (fun _ => -1) (fun _ => 0) (fun _ => 1) 0 0 (fun _ => False) (fun _ => 0) (fun _ => 0) (fun _ => 1) (fun _ => 0) (fun _ => 1) (fun _ => 0) 0 0 (-1) (fun _ => False) (fun _ => 0) (fun _ => 1) (fun _ => False) 0 (fun _ => 0) (fun _ => 1) (fun _ => 0) (fun _ => 0) (fun _ => 1) (fun _ => False) (fun _ => 0) (fun _ => 1) (fun _ => False) (fun _ => 0) (fun _ => 1) 0 0 (fun _ => False) 0 0 (fun _ => 0) (fun _ => 0) (fun _ => 0) (fun _ => 0) (fun _ => 0) (fun _ => 0) (fun _ => 1) (fun _ => 0) (fun _ => 1) (fun _ => False) (fun _ => 0) (fun _ => 0) (fun _ => 0) (fun _ => 1) (fun _ _ => False) (fun _ _ => 0) (fun _ _ => 1) []) 0 0 1 0 1 1 1000 (fun _ => False) (fun _ => 0) (fun _ => (1 : Int)) (fun _ => (-1 : Int)) (fun _ => (-1 : Int)) (fun _ => 0) (fun _ => (1 : Int)) 0 (fun _ => 0) (fun _ => 0) (fun _ => 0) (fun _ => 0) (fun _ => 0) (fun _ => 0) (fun _ => 0) (fun _ => 0) (fun _ => 0) (fun _ => 0) (fun _ => 0) (fun _ => 0) (fun _ => 0) (fun _ => 0) (fun _ => 0) 0 (fun _ => 0) (fun _ => 0) (fun _ => 0) (fun _ => 0) (fun _ => 0) 0 (fun _ => 0) 0 (fun _ => 0) 0 (fun _ => 0) (fun _ => 0) 0 (fun _ => False) (fun _ => 0) (fun _ => 0) (fun _ => False) (fun _ => 0) (fun _ => 0) 0 0 0 (-1) (fun _ => False) (fun _ => 0) (fun _ => 0) 0 0 (fun _ => 0) (fun _ => 0) (fun _ => False) (fun _ => False) (fun _ => 0) (fun _ => 0) (fun _ => 0) (fun _ => 0) (fun _ => 0) []) ++ [.inl (.long, List.replicate 1 (defaultValue .long))] = (MR (MC s0 (.inl (.object "java/lang/Object", [])) (fun _ => 0) (fun _ => 1) (fun _ => False) (fun _ => False) 1 0 0 (fun _ => False) (fun _ => 0) (fun _ => 1) (up1 (fun _ => 0) 0 (nN 1 1000)) (up1 (fun _ => 1) 0 (nD 1 1000)) (fun _ => -1) (fun _ => 0) (fun _ => 1) 0 0 (fun _ => False) (fun _ => 0) (fun _ => 0) (fun _ => 1) (fun _ => 0) (fun _ => 1) (fun _ => 0) 0 0 (-1) (fun _ => False) (fun _ => 0) (fun _ => 1) (fun _ => False) 0 (fun _ => 0) (fun _ => 1) (fun _ => 0) (fun _ => 0) (fun _ => 1) (fun _ => False) (fun _ => 0) (fun _ => 1) (fun _ => False) (fun _ => 0) (fun _ => 1) 0 0 (fun _ => False) 0 0 (fun _ => 0) (fun _ => 0) (fun _ => 0) (fun _ => 0) (fun _ => 0) (fun _ => 0) (fun _ => 1) (fun _ => 0) (fun _ => 1) (fun _ => False) (fun _ => 0) (fun _ => 0) (fun _ => 0) (fun _ => 1) (fun _ _ => False) (fun _ _ => 0) (fun _ _ => 1) []) 0 0 1 0 1 1 1000 (fun _ => False) (fun _ => 0) (fun _ => (1 : Int)) (fun _ => (-1 : Int)) (fun _ => (-1 : Int)) (fun _ => 0) (fun _ => (1 : Int)) 0 (fun _ => 0) (fun _ => 0) (fun _ => 0) (fun _ => 0) (fun _ => 0) (fun _ => 0) (fun _ => 0) (fun _ => 0) (fun _ => 0) (fun _ => 0) (fun _ => 0) (fun _ => 0) (fun _ => 0) (fun _ => 0) (fun _ => 0) 0 (fun _ => 0) (fun _ => 0) (fun _ => 0) (fun _ => 0) (fun _ => 0) 0 (fun _ => 0) 0 (fun _ => 0) 0 (fun _ => 0) (fun _ => 0) 0 (fun _ => False) (fun _ => 0) (fun _ => 0) (fun _ => False) (fun _ => 0) (fun _ => 0) 0 0 0 (-1) (fun _ => False) (fun _ => 0) (fun _ => 0) 0 0 (fun _ => 0) (fun _ => 0) (fun _ => False) (fun _ => False) (fun _ => 0) (fun _ => 0) (fun _ => 0) (fun _ => 0) (fun _ => 0) [OUTC 0]) := by
    unfold MR
    rw [List.append_assoc, List.append_assoc]
    rfl
  rw [e1, e2]
  refine Rg.step 20 F_Law_19 rfl (fun _ => rfl) ?_
  refine Rg.step 21 F_Law_20 rfl (fun _ => rfl) ?_
  refine Rg.step 23 F_Law_21 rfl (fun _ => rfl) ?_
  exact Rg.weak hk (by simp [lput1, lput2, Value.category, fi0, fi1, fi2, fi3] <;> first | rfl | exact ⟨rfl, rfl⟩) (by simp [lput1, lput2, Value.category, fi0, fi1, fi2, fi3] <;> first | rfl | exact ⟨rfl, rfl⟩)
end R9B
theorem law_pure : PURE := by
  intro L xs hL
  have hb : ∀ z : Int, -2147483648 ≤ (xs z.toNat).toInt ∧ (xs z.toNat).toInt < 2147483648 := fun z => ⟨Int32.le_toInt _, Int32.toInt_lt _⟩
  have hs : (.inl (.int, (List.range L).map (fun j => .int (xs j))) : AC) = .inl (.int, aI L (fun z => (xs z.toNat).toInt)) := by
    unfold aI
    congr 2
    refine List.map_congr_left (fun j _ => ?_)
    unfold iI
    rw [Int32.ofInt_toInt]
    rfl
  obtain ⟨mem', hl, hr⟩ := law_loop (n0 := 2) hs hL hb 512 0 _ (by omega) (by omega) inv_start
  rw [show (5 * ((0 : Nat) : Int)) = 0 from rfl] at hr
  obtain ⟨f, w', -, hrun⟩ := law_run hr false (fun z => by cases z)
  exact ⟨f, 31, mem', w', by omega, hl, hrun⟩
theorem i_vc : Claimed_1_1 ∧ Claimed_1_2 := claim_of law_pure
