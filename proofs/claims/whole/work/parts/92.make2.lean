/-! New objects of the class: the task, the plan, the verdict, the judge, the arranger, all of it. -/
section R92
variable {d : Nat}
def XAl : AM := [.inr (11, [.ref 1, .int 0, .int 0])]
def XTa (b : Nat) : AM := .inr (7, [.ref (b + 1), .ref (b + 2), .ref (b + 6), .int 0, .int 0, .ref (b + 9), .ref (b + 10)]) :: (XAl ++ (XSt (b + 2) ++ ([.inr (3, [.ref (b + 7), .ref (b + 8)]), .inl (.long, aL 1 (up1 (fun _ => 0) 0 (nN 1 1000))), .inl (.long, aL 1 (up1 (fun _ => 1) 0 (nD 1 1000)))] ++ ([.inl (.int, aI 8 (fun _ => -1))] ++ XFr 8 (b + 10)))))
def XVe (b : Nat) : AM := .inr (9, [.int 0, .int 0, .int (iI (-1)), .ref (b + 1)]) :: XSt (b + 1)
def XPl (b : Nat) : AM := .inr (5, [.int 0, .ref (b + 1), .ref (b + 2), .ref (b + 5), .int 0, .ref (b + 8), .int 0]) :: ([.inl (.int, aI 12 (fun _ => 0))] ++ (XFr 12 (b + 2) ++ (XFr 12 (b + 5) ++ [.inl (.int, aI 24 (fun _ => 0))])))
def XJu (b : Nat) : AM := .inr (4, [.ref (b + 1), .ref (b + 4), .ref (b + 5), .ref (b + 8), .ref (b + 12), .int 0, .int 0]) :: (XFr 24 (b + 1) ++ ([.inl (.int, aI 24 (fun _ => 0))] ++ (XFr 1 (b + 5) ++ (XSt (b + 8) ++ XSt (b + 12)))))
def SS (b : Nat) : Nat → AM
  | 0 => []
  | k + 1 => SS b k ++ XSt (b + 19 + 4 * k)
def vsA (b k : Nat) : List Value := (List.range 25).map (fun j => if j < k then Value.ref (b + 19 + 4 * j) else Value.null)
noncomputable def UAr (b : Nat) : AM := [.inl (.int, aI 24 (fun _ => 0)), .inl (.int, aI 24 (fun _ => 0)), .inl (.long, aL 24 (fun _ => 0)), .inl (.int, aI 12 (fun _ => 0)), .inl (.int, aI 12 (fun _ => 0))] ++ (XFr 12 (b + 7) ++ (XFr 12 (b + 10) ++ ([.inl (.boolean, aZ 12 (fun _ => False)), .inl (.long, aL 12 (fun _ => 0)), .inl (.long, aL 12 (fun _ => 0))] ++ XFr 1 (b + 16))))
def oAr (b : Nat) : AC := .inr (2, [.ref (b + 1), .int 0, .ref (b + 2), .ref (b + 3), .ref (b + 4), .int 0, .int 0, .ref (b + 5), .ref (b + 6), .ref (b + 7), .ref (b + 10), .ref (b + 13), .ref (b + 14), .ref (b + 15), .long 0, .ref (b + 16), .int 0])
noncomputable def XAr (b k : Nat) : AM := oAr b :: (.inl (.object "PlanJudge$State", vsA b k) :: (UAr b ++ SS b k))
noncomputable def XPJ (b : Nat) : AM := .inr (0, [.ref (b + 1), .ref (b + 4), .ref (b + 17), .ref (b + 26), .ref (b + 31), .ref (b + 47)]) :: (XFr 2 (b + 1) ++ (XTa (b + 4) ++ (XPl (b + 17) ++ (XVe (b + 26) ++ (XJu (b + 31) ++ XAr (b + 47) 25)))))
theorem c_AC_init {m : AM} {b : Nat} {x : AC} (hb : m.length = b) : Cg true d m_AbstractCollection_init [.ref b] (m ++ [x]) (.inl none) (m ++ [x]) := by
  refine Cg.of (Nat.le_of_ble_eq_true rfl) ?_
  change Rg _ _ _ _ 0 [(0, .ref b)] [] _ _ _
  refine Rg.step 1 F_AbstractCollection_init_0 rfl (fun _ => rfl) ?_
  refine Rg.step 4 F_AbstractCollection_init_1 (by dsimp only [one]; rw [show rX (mH m_AbstractCollection_init) 1 = some 0 from rX_8_1]; rfl) (fun _ => rfl) ?_
  exact Rg.retV F_AbstractCollection_init_4 rfl rfl
theorem c_ALs_init {m : AM} {b : Nat} (hb : m.length = b) (h2 : 2 ≤ b) : Cg false (d + 1) m_AbstractList_init [.ref b] (m ++ [.inr (11, [.null, .int 0, .int 0])]) (.inl none) (m ++ [.inr (11, [.null, .int 0, .int 0])]) := by
  refine Cg.of (Nat.le_of_ble_eq_true rfl) ?_
  change Rg _ _ _ _ 0 [(0, .ref b)] [] (m ++ (_ :: ([] : AM))) _ _
  refine Rg.step 1 F_AbstractList_init_0 rfl (fun _ => rfl) ?_
  refine Rg.call 4 F_AbstractList_init_1 rfl (one_I (by decide +kernel) rM_7_1 (by decide) (by simp) rfl rfl) (Nat.le_of_ble_eq_true rfl) (Cg.any (c_AC_init hb)) ?_
  refine Rg.step 5 F_AbstractList_init_4 rfl (fun _ => rfl) ?_
  refine Rg.step 6 F_AbstractList_init_5 rfl (fun _ => rfl) ?_
  refine Rg.put 9 F_AbstractList_init_6 rfl rF_7_7 (gOT hb) (by omega) (Nat.le_of_ble_eq_true rfl) (Or.inl rfl) rfl (sOT hb) ?_
  exact Rg.retV F_AbstractList_init_9 rfl rfl
theorem c_Al_init {m : AM} {b : Nat} (hb : m.length = b) (h2 : 2 ≤ b)  : Cg false (d + 2) m_ArrayList_init [.ref b] (m ++ [.inr (11, [.null, .int 0, .int 0])]) (.inl none) (m ++ XAl) := by
  refine Cg.of (Nat.le_of_ble_eq_true rfl) ?_
  change Rg _ _ _ _ 0 [(0, .ref b)] [] (m ++ (_ :: ([] : AM))) _ _
  refine Rg.step 1 F_ArrayList_init_0 rfl (fun _ => rfl) ?_
  refine Rg.call 4 F_ArrayList_init_1 rfl (one_I (by decide +kernel) rM_6_1 (by decide) (by simp) rfl rfl) (Nat.le_of_ble_eq_true rfl) (c_ALs_init hb h2) ?_
  refine Rg.step 5 F_ArrayList_init_4 rfl (fun _ => rfl) ?_
  refine Rg.step 8 F_ArrayList_init_5 rfl (fun _ => rfl) ?_
  refine Rg.put 11 F_ArrayList_init_8 rfl rF_6_9 (gOT (T := []) hb) (by omega) (Nat.le_of_ble_eq_true rfl) (Or.inl rfl) rfl (sOT (T := []) hb) ?_
  exact Rg.retV F_ArrayList_init_11 rfl rfl
theorem c_Ta_init {m : AM} {b : Nat} (hb : m.length = b) (h2 : 2 ≤ b)  : Cg false (d + 3) m_Task_init [.ref b] (m ++ [.inr (7, [.null, .null, .null, .int 0, .int 0, .null, .null])]) (.inl none) (m ++ XTa b) := by
  refine Cg.of (Nat.le_of_ble_eq_true rfl) ?_
  change Rg _ _ _ _ 0 [(0, .ref b)] [] (m ++ (_ :: ([] : AM))) _ _
  refine Rg.step 1 F_Task_init_0 rfl (fun _ => rfl) ?_
  refine Rg.step 4 F_Task_init_1 (by dsimp only [one]; rw [show rX (mH m_Task_init) 3 = some 0 from rX_5_3]; rfl) (fun _ => rfl) ?_
  refine Rg.step 5 F_Task_init_4 rfl (fun _ => rfl) ?_
  refine Rg.newOT (k := 0) 8 F_Task_init_5 rfl rC_5_9 rfl rfl (by decide) rfl hb rfl ?_
  refine Rg.step 9 F_Task_init_8 rfl (fun _ => rfl) ?_
  refine Rg.call 12 F_Task_init_9 rfl (one_I (by decide +kernel) rM_5_11 (by decide) (by simp) rfl rfl) (Nat.le_of_ble_eq_true rfl) (Cg.inT (k := 0) hb rfl (fun m1 h1 => c_Al_init h1 (by omega))) ?_
  refine Rg.put 15 F_Task_init_12 rfl rF_5_12 (gOT hb) (by omega) (Nat.le_of_ble_eq_true rfl) (Or.inr (Or.inr ⟨rfl, rfl⟩)) rfl (sOT hb) ?_
  refine Rg.step 16 F_Task_init_15 rfl (fun _ => rfl) ?_
  refine Rg.newOT (k := 1) 19 F_Task_init_16 rfl rC_5_18 rfl rfl (by decide) rfl hb rfl ?_
  refine Rg.step 20 F_Task_init_19 rfl (fun _ => rfl) ?_
  refine Rg.call 23 F_Task_init_20 rfl (one_I (by decide +kernel) rM_5_20 (by decide) (by simp) rfl rfl) (Nat.le_of_ble_eq_true rfl) (Cg.inT (k := 1) hb rfl (fun m1 h1 => c_St_init h1 (by omega))) ?_
  refine Rg.put 26 F_Task_init_23 rfl rF_5_21 (gOT hb) (by omega) (Nat.le_of_ble_eq_true rfl) (Or.inr (Or.inr ⟨rfl, rfl⟩)) rfl (sOT hb) ?_
  refine Rg.step 27 F_Task_init_26 rfl (fun _ => rfl) ?_
  refine Rg.newOT (k := 5) 30 F_Task_init_27 rfl rC_5_25 rfl rfl (by decide) rfl hb rfl ?_
  refine Rg.step 31 F_Task_init_30 rfl (fun _ => rfl) ?_
  refine Rg.step 32 F_Task_init_31 rfl (fun _ => rfl) ?_
  refine Rg.call 35 F_Task_init_32 rfl (one_I (by decide +kernel) rM_5_27 (by decide) (by simp) rfl rfl) (Nat.le_of_ble_eq_true rfl) (Cg.inT (k := 5) hb rfl (fun m1 h1 => c_Fr_init (n := 1) h1 (by omega) (by decide))) ?_
  refine Rg.put 38 F_Task_init_35 rfl rF_5_30 (gOT hb) (by omega) (Nat.le_of_ble_eq_true rfl) (Or.inr (Or.inr ⟨rfl, rfl⟩)) rfl (sOT hb) ?_
  refine Rg.step 39 F_Task_init_38 rfl (fun _ => rfl) ?_
  refine Rg.bip 41 F_Task_init_39 rfl rfl ?_
  refine Rg.newT (j := 8) (k := 8) 43 F_Task_init_41 rfl rfl (by decide) (by decide) hb rfl (nwI 8) ?_
  refine Rg.put 46 F_Task_init_43 rfl rF_5_34 (gOT hb) (by omega) (Nat.le_of_ble_eq_true rfl) (Or.inr (Or.inr ⟨rfl, rfl⟩)) rfl (sOT hb) ?_
  refine Rg.step 47 F_Task_init_46 rfl (fun _ => rfl) ?_
  refine Rg.newOT (k := 9) 50 F_Task_init_47 rfl rC_5_25 rfl rfl (by decide) rfl hb rfl ?_
  refine Rg.step 51 F_Task_init_50 rfl (fun _ => rfl) ?_
  refine Rg.bip 53 F_Task_init_51 rfl rfl ?_
  refine Rg.call 56 F_Task_init_53 rfl (one_I (by decide +kernel) rM_5_27 (by decide) (by simp) rfl rfl) (Nat.le_of_ble_eq_true rfl) (Cg.inT (k := 9) hb rfl (fun m1 h1 => c_Fr_init (n := 8) h1 (by omega) (by decide))) ?_
  refine Rg.put 59 F_Task_init_56 rfl rF_5_38 (gOT hb) (by omega) (Nat.le_of_ble_eq_true rfl) (Or.inr (Or.inr ⟨rfl, rfl⟩)) rfl (sOT hb) ?_
  refine Rg.step 60 F_Task_init_59 rfl (fun _ => rfl) ?_
  refine Rg.getf 63 F_Task_init_60 rfl rF_5_30 (gOT hb) rfl ?_
  refine Rg.step 64 F_Task_init_63 rfl (fun _ => rfl) ?_
  refine Rg.lcn (n := 1) 65 F_Task_init_64 rfl rfl ?_
  refine Rg.ldc2 (n := 1000) 68 F_Task_init_65 rfl rJ_5_41 rfl ?_
  refine Rg.call 71 F_Task_init_68 rfl (one_V rM_5_43 (by decide) (by simp) rfl rfl ((gT' hb).trans rfl) rfl) (Nat.le_of_ble_eq_true rfl) (c_FrI_put _ (a := b + (5 + 1)) (u := b + (6 + 1)) (v := b + (7 + 1)) (n := 1) (N := fun _ => 0) (D := fun _ => 1) (FI.of ((gT' hb).trans rfl) ((gT' hb).trans rfl) ((gT' hb).trans rfl) (by omega) (by omega) (by omega) (by decide)) (by omega) (by omega) (by omega)) ?_
  unfold fsI
  rw [sT' hb, sT' hb]
  refine Rg.step 72 F_Task_init_71 rfl (fun _ => rfl) ?_
  refine Rg.getf 75 F_Task_init_72 rfl rF_5_34 (gOT hb) rfl ?_
  refine Rg.step 76 F_Task_init_75 rfl (fun _ => rfl) ?_
  refine Rg.call 79 F_Task_init_76 rfl (one_S (by decide +kernel) rM_5_47 (by decide) (by simp) rfl rfl) (Nat.le_of_ble_eq_true rfl) (c_FillI (n := 8) (f := fun _ => 0) (v := -1) ((gT' hb).trans rfl) (by omega) (by decide)) ?_
  rw [sT' hb]
  exact Rg.retV F_Task_init_79 rfl rfl
theorem c_Pl_init {m : AM} {b : Nat} (hb : m.length = b) (h2 : 2 ≤ b)  : Cg false (d + 2) m_Plan_init [.ref b] (m ++ [.inr (5, [.int 0, .null, .null, .null, .int 0, .null, .int 0])]) (.inl none) (m ++ XPl b) := by
  refine Cg.of (Nat.le_of_ble_eq_true rfl) ?_
  change Rg _ _ _ _ 0 [(0, .ref b)] [] (m ++ (_ :: ([] : AM))) _ _
  refine Rg.step 1 F_Plan_init_0 rfl (fun _ => rfl) ?_
  refine Rg.step 4 F_Plan_init_1 (by dsimp only [one]; rw [show rX (mH m_Plan_init) 3 = some 0 from rX_10_3]; rfl) (fun _ => rfl) ?_
  refine Rg.step 5 F_Plan_init_4 rfl (fun _ => rfl) ?_
  refine Rg.bip 7 F_Plan_init_5 rfl rfl ?_
  refine Rg.newT (j := 12) (k := 0) 9 F_Plan_init_7 rfl rfl (by decide) (by decide) hb rfl (nwI 12) ?_
  refine Rg.put 12 F_Plan_init_9 rfl rF_10_9 (gOT hb) (by omega) (Nat.le_of_ble_eq_true rfl) (Or.inr (Or.inr ⟨rfl, rfl⟩)) rfl (sOT hb) ?_
  refine Rg.step 13 F_Plan_init_12 rfl (fun _ => rfl) ?_
  refine Rg.newOT (k := 1) 16 F_Plan_init_13 rfl rC_10_15 rfl rfl (by decide) rfl hb rfl ?_
  refine Rg.step 17 F_Plan_init_16 rfl (fun _ => rfl) ?_
  refine Rg.bip 19 F_Plan_init_17 rfl rfl ?_
  refine Rg.call 22 F_Plan_init_19 rfl (one_I (by decide +kernel) rM_10_17 (by decide) (by simp) rfl rfl) (Nat.le_of_ble_eq_true rfl) (Cg.inT (k := 1) hb rfl (fun m1 h1 => c_Fr_init (n := 12) h1 (by omega) (by decide))) ?_
  refine Rg.put 25 F_Plan_init_22 rfl rF_10_20 (gOT hb) (by omega) (Nat.le_of_ble_eq_true rfl) (Or.inr (Or.inr ⟨rfl, rfl⟩)) rfl (sOT hb) ?_
  refine Rg.step 26 F_Plan_init_25 rfl (fun _ => rfl) ?_
  refine Rg.newOT (k := 4) 29 F_Plan_init_26 rfl rC_10_15 rfl rfl (by decide) rfl hb rfl ?_
  refine Rg.step 30 F_Plan_init_29 rfl (fun _ => rfl) ?_
  refine Rg.bip 32 F_Plan_init_30 rfl rfl ?_
  refine Rg.call 35 F_Plan_init_32 rfl (one_I (by decide +kernel) rM_10_17 (by decide) (by simp) rfl rfl) (Nat.le_of_ble_eq_true rfl) (Cg.inT (k := 4) hb rfl (fun m1 h1 => c_Fr_init (n := 12) h1 (by omega) (by decide))) ?_
  refine Rg.put 38 F_Plan_init_35 rfl rF_10_24 (gOT hb) (by omega) (Nat.le_of_ble_eq_true rfl) (Or.inr (Or.inr ⟨rfl, rfl⟩)) rfl (sOT hb) ?_
  refine Rg.step 39 F_Plan_init_38 rfl (fun _ => rfl) ?_
  refine Rg.bip 41 F_Plan_init_39 rfl rfl ?_
  refine Rg.newT (j := 24) (k := 7) 43 F_Plan_init_41 rfl rfl (by decide) (by decide) hb rfl (nwI 24) ?_
  refine Rg.put 46 F_Plan_init_43 rfl rF_10_27 (gOT hb) (by omega) (Nat.le_of_ble_eq_true rfl) (Or.inr (Or.inr ⟨rfl, rfl⟩)) rfl (sOT hb) ?_
  exact Rg.retV F_Plan_init_46 rfl rfl
theorem c_Ve_init {m : AM} {b : Nat} (hb : m.length = b) (h2 : 2 ≤ b)  : Cg false (d + 3) m_Verdict_init [.ref b] (m ++ [.inr (9, [.int 0, .int 0, .int 0, .null])]) (.inl none) (m ++ XVe b) := by
  refine Cg.of (Nat.le_of_ble_eq_true rfl) ?_
  change Rg _ _ _ _ 0 [(0, .ref b)] [] (m ++ (_ :: ([] : AM))) _ _
  refine Rg.step 1 F_Verdict_init_0 rfl (fun _ => rfl) ?_
  refine Rg.step 4 F_Verdict_init_1 (by dsimp only [one]; rw [show rX (mH m_Verdict_init) 3 = some 0 from rX_11_3]; rfl) (fun _ => rfl) ?_
  refine Rg.step 5 F_Verdict_init_4 rfl (fun _ => rfl) ?_
  refine Rg.step 6 F_Verdict_init_5 rfl (fun _ => rfl) ?_
  refine Rg.put 9 F_Verdict_init_6 rfl rF_11_9 (gOT hb) (by omega) (Nat.le_of_ble_eq_true rfl) (Or.inl rfl) rfl (sOT hb) ?_
  refine Rg.step 10 F_Verdict_init_9 rfl (fun _ => rfl) ?_
  refine Rg.newOT (k := 0) 13 F_Verdict_init_10 rfl rC_11_15 rfl rfl (by decide) rfl hb rfl ?_
  refine Rg.step 14 F_Verdict_init_13 rfl (fun _ => rfl) ?_
  refine Rg.call 17 F_Verdict_init_14 rfl (one_I (by decide +kernel) rM_11_17 (by decide) (by simp) rfl rfl) (Nat.le_of_ble_eq_true rfl) (Cg.inT (k := 0) hb rfl (fun m1 h1 => c_St_init h1 (by omega))) ?_
  refine Rg.put 20 F_Verdict_init_17 rfl rF_11_18 (gOT hb) (by omega) (Nat.le_of_ble_eq_true rfl) (Or.inr (Or.inr ⟨rfl, rfl⟩)) rfl (sOT hb) ?_
  exact Rg.retV F_Verdict_init_20 rfl rfl
theorem c_Ju_init {m : AM} {b : Nat} (hb : m.length = b) (h2 : 2 ≤ b)  : Cg false (d + 3) m_Judge_init [.ref b] (m ++ [.inr (4, [.null, .null, .null, .null, .null, .int 0, .int 0])]) (.inl none) (m ++ XJu b) := by
  refine Cg.of (Nat.le_of_ble_eq_true rfl) ?_
  change Rg _ _ _ _ 0 [(0, .ref b)] [] (m ++ (_ :: ([] : AM))) _ _
  refine Rg.step 1 F_Judge_init_0 rfl (fun _ => rfl) ?_
  refine Rg.step 4 F_Judge_init_1 (by dsimp only [one]; rw [show rX (mH m_Judge_init) 3 = some 0 from rX_12_3]; rfl) (fun _ => rfl) ?_
  refine Rg.step 5 F_Judge_init_4 rfl (fun _ => rfl) ?_
  refine Rg.newOT (k := 0) 8 F_Judge_init_5 rfl rC_12_9 rfl rfl (by decide) rfl hb rfl ?_
  refine Rg.step 9 F_Judge_init_8 rfl (fun _ => rfl) ?_
  refine Rg.bip 11 F_Judge_init_9 rfl rfl ?_
  refine Rg.call 14 F_Judge_init_11 rfl (one_I (by decide +kernel) rM_12_11 (by decide) (by simp) rfl rfl) (Nat.le_of_ble_eq_true rfl) (Cg.inT (k := 0) hb rfl (fun m1 h1 => c_Fr_init (n := 24) h1 (by omega) (by decide))) ?_
  refine Rg.put 17 F_Judge_init_14 rfl rF_12_14 (gOT hb) (by omega) (Nat.le_of_ble_eq_true rfl) (Or.inr (Or.inr ⟨rfl, rfl⟩)) rfl (sOT hb) ?_
  refine Rg.step 18 F_Judge_init_17 rfl (fun _ => rfl) ?_
  refine Rg.bip 20 F_Judge_init_18 rfl rfl ?_
  refine Rg.newT (j := 24) (k := 3) 22 F_Judge_init_20 rfl rfl (by decide) (by decide) hb rfl (nwI 24) ?_
  refine Rg.put 25 F_Judge_init_22 rfl rF_12_20 (gOT hb) (by omega) (Nat.le_of_ble_eq_true rfl) (Or.inr (Or.inr ⟨rfl, rfl⟩)) rfl (sOT hb) ?_
  refine Rg.step 26 F_Judge_init_25 rfl (fun _ => rfl) ?_
  refine Rg.newOT (k := 4) 29 F_Judge_init_26 rfl rC_12_9 rfl rfl (by decide) rfl hb rfl ?_
  refine Rg.step 30 F_Judge_init_29 rfl (fun _ => rfl) ?_
  refine Rg.step 31 F_Judge_init_30 rfl (fun _ => rfl) ?_
  refine Rg.call 34 F_Judge_init_31 rfl (one_I (by decide +kernel) rM_12_11 (by decide) (by simp) rfl rfl) (Nat.le_of_ble_eq_true rfl) (Cg.inT (k := 4) hb rfl (fun m1 h1 => c_Fr_init (n := 1) h1 (by omega) (by decide))) ?_
  refine Rg.put 37 F_Judge_init_34 rfl rF_12_24 (gOT hb) (by omega) (Nat.le_of_ble_eq_true rfl) (Or.inr (Or.inr ⟨rfl, rfl⟩)) rfl (sOT hb) ?_
  refine Rg.step 38 F_Judge_init_37 rfl (fun _ => rfl) ?_
  refine Rg.newOT (k := 7) 41 F_Judge_init_38 rfl rC_12_27 rfl rfl (by decide) rfl hb rfl ?_
  refine Rg.step 42 F_Judge_init_41 rfl (fun _ => rfl) ?_
  refine Rg.call 45 F_Judge_init_42 rfl (one_I (by decide +kernel) rM_12_29 (by decide) (by simp) rfl rfl) (Nat.le_of_ble_eq_true rfl) (Cg.inT (k := 7) hb rfl (fun m1 h1 => c_St_init h1 (by omega))) ?_
  refine Rg.put 48 F_Judge_init_45 rfl rF_12_30 (gOT hb) (by omega) (Nat.le_of_ble_eq_true rfl) (Or.inr (Or.inr ⟨rfl, rfl⟩)) rfl (sOT hb) ?_
  refine Rg.step 49 F_Judge_init_48 rfl (fun _ => rfl) ?_
  refine Rg.newOT (k := 11) 52 F_Judge_init_49 rfl rC_12_27 rfl rfl (by decide) rfl hb rfl ?_
  refine Rg.step 53 F_Judge_init_52 rfl (fun _ => rfl) ?_
  refine Rg.call 56 F_Judge_init_53 rfl (one_I (by decide +kernel) rM_12_29 (by decide) (by simp) rfl rfl) (Nat.le_of_ble_eq_true rfl) (Cg.inT (k := 11) hb rfl (fun m1 h1 => c_St_init h1 (by omega))) ?_
  refine Rg.put 59 F_Judge_init_56 rfl rF_12_34 (gOT hb) (by omega) (Nat.le_of_ble_eq_true rfl) (Or.inr (Or.inr ⟨rfl, rfl⟩)) rfl (sOT hb) ?_
  exact Rg.retV F_Judge_init_59 rfl rfl
theorem SS_len {b : Nat} : ∀ k, (SS b k).length = 4 * k := by
  intro k
  induction k with
  | zero => rfl
  | succ k ih =>
    rw [SS, List.length_append, ih]
    show 4 * k + 4 = _
    omega
theorem vsA_len {b k : Nat} : (vsA b k).length = 25 := by unfold vsA; simp
theorem vsA_set {b k : Nat} : (vsA b k).set k (.ref (b + 19 + 4 * k)) = vsA b (k + 1) := by
  apply List.ext_getElem?
  intro i
  unfold vsA
  by_cases h : i = k
  · subst h
    by_cases h2 : i < 25
    · rw [List.getElem?_set_self (by simp; exact h2)]
      simp [h2]
    · rw [List.getElem?_eq_none (by simp; omega), List.getElem?_eq_none (by simp; omega)]
  · rw [List.getElem?_set_ne (fun z => h z.symm)]
    by_cases h2 : i < 25
    · simp [h2, show (i < k + 1) = (i < k) from propext (by omega)]
    · rw [List.getElem?_eq_none (by simp; omega), List.getElem?_eq_none (by simp; omega)]
theorem ar_loop {m : AM} {b n0 : Nat} (hb : m.length = b) (h2 : 2 ≤ b) : ∀ (j k : Nat), k + j = 25 → Rg false (d + 3) m_Arranger_init n0 117 [(1, .int (iI (k : Int))), (0, .ref b)] [] (m ++ XAr b k) (.inl none) (m ++ XAr b 25) := by
  intro j
  induction j with
  | zero =>
    intro k hk
    have ek : k = 25 := by omega
    subst ek
    unfold XAr
    refine Rg.step 118 F_Arranger_init_117 rfl (fun _ => rfl) ?_
    refine Rg.step 119 F_Arranger_init_118 rfl (fun _ => rfl) ?_
    refine Rg.getf 122 F_Arranger_init_119 rfl rF_13_11 (gOT hb) rfl ?_
    refine Rg.alen 123 F_Arranger_init_122 rfl (gT' (i := 0) hb) ?_
    rw [vsA_len, show (25 : Nat).toInt32 = iI 25 from rfl]
    refine Rg.icgeI 145 126 F_Arranger_init_123 rfl rfl (by omega) (by omega) (fun _ => ?_) (fun h => by omega)
    exact Rg.retV F_Arranger_init_145 rfl rfl
  | succ j ih =>
    intro k hk
    have ht := ih (k + 1) (by omega)
    have hT : (.inl (.object "PlanJudge$State", vsA b k) :: (UAr b ++ SS b k)).length = 18 + 4 * k := by
      rw [List.length_cons, List.length_append, SS_len]
      show 17 + 4 * k + 1 = _
      omega
    have hv : (m ++ (oAr b :: ((.inl (.object "PlanJudge$State", vsA b k) :: (UAr b ++ SS b k)) ++ XSt (b + (18 + 4 * k + 1)))))[b + (18 + 4 * k + 1)]? = some (.inr (6, [.int 0, .ref (b + (18 + 4 * k + 1) + 1)])) := by
      rw [gT' hb, List.getElem?_append_right (by omega), hT, Nat.sub_self]
      rfl
    have e1 : m ++ (oAr b :: ((.inl (.object "PlanJudge$State", vsA b k) :: (UAr b ++ SS b k)) ++ XSt (b + (18 + 4 * k + 1))).set 0 (.inl (.object "PlanJudge$State", (vsA b k).set k (.ref (b + (18 + 4 * k + 1)))))) = m ++ XAr b (k + 1) := by
      rw [show b + (18 + 4 * k + 1) = b + 19 + 4 * k by omega, vsA_set]
      unfold XAr
      rw [SS, ← List.append_assoc]
      rfl
    rw [← e1] at ht
    unfold XAr
    refine Rg.step 118 F_Arranger_init_117 rfl (fun _ => rfl) ?_
    refine Rg.step 119 F_Arranger_init_118 rfl (fun _ => rfl) ?_
    refine Rg.getf 122 F_Arranger_init_119 rfl rF_13_11 (gOT hb) rfl ?_
    refine Rg.alen 123 F_Arranger_init_122 rfl (gT' (i := 0) hb) ?_
    rw [vsA_len, show (25 : Nat).toInt32 = iI 25 from rfl]
    refine Rg.icgeI 145 126 F_Arranger_init_123 rfl rfl (by omega) (by omega) (fun h => by omega) (fun _ => ?_)
    refine Rg.step 127 F_Arranger_init_126 rfl (fun _ => rfl) ?_
    refine Rg.getf 130 F_Arranger_init_127 rfl rF_13_11 (gOT hb) rfl ?_
    refine Rg.step 131 F_Arranger_init_130 rfl (fun _ => rfl) ?_
    refine Rg.newOT (k := 18 + 4 * k) 134 F_Arranger_init_131 rfl rC_13_9 rfl rfl (by decide) rfl hb hT ?_
    refine Rg.step 135 F_Arranger_init_134 rfl (fun _ => rfl) ?_
    refine Rg.call 138 F_Arranger_init_135 rfl (one_I (by decide +kernel) rM_13_59 (by decide) (by simp) rfl rfl) (Nat.le_of_ble_eq_true rfl) (Cg.inT (k := 18 + 4 * k) hb hT (fun m1 h1 => c_St_init h1 (by omega))) ?_
    refine Rg.aast 139 F_Arranger_init_138 rfl (gT' (i := 0) hb) hv (by omega) (Or.inl rfl) (ix_iI (by omega)) (by rw [vsA_len]; omega) ?_
    rw [show ((k : Int)).toNat = k by omega, sT' hb]
    refine Rg.inc 142 F_Arranger_init_139 rfl rfl (by decide) ?_
    refine Rg.step 117 F_Arranger_init_142 rfl (fun _ => rfl) ?_
    exact Rg.weak ht (by simp [lput1, lput2, Value.category, fi0, fi1, fi2, fi3] <;> first | rfl | exact ⟨rfl, rfl⟩) (by simp [lput1, lput2, Value.category, fi0, fi1, fi2, fi3] <;> first | rfl | exact ⟨rfl, rfl⟩)
theorem c_Ar_init {m : AM} {b : Nat} (hb : m.length = b) (h2 : 2 ≤ b)  : Cg false (d + 3) m_Arranger_init [.ref b] (m ++ [.inr (2, [.null, .int 0, .null, .null, .null, .int 0, .int 0, .null, .null, .null, .null, .null, .null, .null, .long 0, .null, .int 0])]) (.inl none) (m ++ XAr b 25) := by
  refine Cg.of (Nat.le_of_ble_eq_true rfl) ?_
  change Rg _ _ _ _ 0 [(0, .ref b)] [] (m ++ (_ :: ([] : AM))) _ _
  have hl := ar_loop (d := d) (n0 := (m ++ [.inr (2, [.null, .int 0, .null, .null, .null, .int 0, .int 0, .null, .null, .null, .null, .null, .null, .null, .long 0, .null, .int 0])] : AM).length) hb h2 25 0 rfl
  refine Rg.step 1 F_Arranger_init_0 rfl (fun _ => rfl) ?_
  refine Rg.step 4 F_Arranger_init_1 (by dsimp only [one]; rw [show rX (mH m_Arranger_init) 3 = some 0 from rX_13_3]; rfl) (fun _ => rfl) ?_
  refine Rg.step 5 F_Arranger_init_4 rfl (fun _ => rfl) ?_
  refine Rg.bip 7 F_Arranger_init_5 rfl rfl ?_
  refine Rg.anewT (j := 25) (k := 0) 10 F_Arranger_init_7 rfl rA_13_9 (by decide) (by decide) hb rfl ?_
  refine Rg.put 13 F_Arranger_init_10 rfl rF_13_11 (gOT hb) (by omega) (Nat.le_of_ble_eq_true rfl) (Or.inr (Or.inr ⟨rfl, rfl⟩)) rfl (sOT hb) ?_
  refine Rg.step 14 F_Arranger_init_13 rfl (fun _ => rfl) ?_
  refine Rg.bip 16 F_Arranger_init_14 rfl rfl ?_
  refine Rg.newT (j := 24) (k := 1) 18 F_Arranger_init_16 rfl rfl (by decide) (by decide) hb rfl (nwI 24) ?_
  refine Rg.put 21 F_Arranger_init_18 rfl rF_13_17 (gOT hb) (by omega) (Nat.le_of_ble_eq_true rfl) (Or.inr (Or.inr ⟨rfl, rfl⟩)) rfl (sOT hb) ?_
  refine Rg.step 22 F_Arranger_init_21 rfl (fun _ => rfl) ?_
  refine Rg.bip 24 F_Arranger_init_22 rfl rfl ?_
  refine Rg.newT (j := 24) (k := 2) 26 F_Arranger_init_24 rfl rfl (by decide) (by decide) hb rfl (nwI 24) ?_
  refine Rg.put 29 F_Arranger_init_26 rfl rF_13_21 (gOT hb) (by omega) (Nat.le_of_ble_eq_true rfl) (Or.inr (Or.inr ⟨rfl, rfl⟩)) rfl (sOT hb) ?_
  refine Rg.step 30 F_Arranger_init_29 rfl (fun _ => rfl) ?_
  refine Rg.bip 32 F_Arranger_init_30 rfl rfl ?_
  refine Rg.newT (j := 24) (k := 3) 34 F_Arranger_init_32 rfl rfl (by decide) (by decide) hb rfl (nwL 24) ?_
  refine Rg.put 37 F_Arranger_init_34 rfl rF_13_24 (gOT hb) (by omega) (Nat.le_of_ble_eq_true rfl) (Or.inr (Or.inr ⟨rfl, rfl⟩)) rfl (sOT hb) ?_
  refine Rg.step 38 F_Arranger_init_37 rfl (fun _ => rfl) ?_
  refine Rg.bip 40 F_Arranger_init_38 rfl rfl ?_
  refine Rg.newT (j := 12) (k := 4) 42 F_Arranger_init_40 rfl rfl (by decide) (by decide) hb rfl (nwI 12) ?_
  refine Rg.put 45 F_Arranger_init_42 rfl rF_13_28 (gOT hb) (by omega) (Nat.le_of_ble_eq_true rfl) (Or.inr (Or.inr ⟨rfl, rfl⟩)) rfl (sOT hb) ?_
  refine Rg.step 46 F_Arranger_init_45 rfl (fun _ => rfl) ?_
  refine Rg.bip 48 F_Arranger_init_46 rfl rfl ?_
  refine Rg.newT (j := 12) (k := 5) 50 F_Arranger_init_48 rfl rfl (by decide) (by decide) hb rfl (nwI 12) ?_
  refine Rg.put 53 F_Arranger_init_50 rfl rF_13_31 (gOT hb) (by omega) (Nat.le_of_ble_eq_true rfl) (Or.inr (Or.inr ⟨rfl, rfl⟩)) rfl (sOT hb) ?_
  refine Rg.step 54 F_Arranger_init_53 rfl (fun _ => rfl) ?_
  refine Rg.newOT (k := 6) 57 F_Arranger_init_54 rfl rC_13_34 rfl rfl (by decide) rfl hb rfl ?_
  refine Rg.step 58 F_Arranger_init_57 rfl (fun _ => rfl) ?_
  refine Rg.bip 60 F_Arranger_init_58 rfl rfl ?_
  refine Rg.call 63 F_Arranger_init_60 rfl (one_I (by decide +kernel) rM_13_36 (by decide) (by simp) rfl rfl) (Nat.le_of_ble_eq_true rfl) (Cg.inT (k := 6) hb rfl (fun m1 h1 => c_Fr_init (n := 12) h1 (by omega) (by decide))) ?_
  refine Rg.put 66 F_Arranger_init_63 rfl rF_13_39 (gOT hb) (by omega) (Nat.le_of_ble_eq_true rfl) (Or.inr (Or.inr ⟨rfl, rfl⟩)) rfl (sOT hb) ?_
  refine Rg.step 67 F_Arranger_init_66 rfl (fun _ => rfl) ?_
  refine Rg.newOT (k := 9) 70 F_Arranger_init_67 rfl rC_13_34 rfl rfl (by decide) rfl hb rfl ?_
  refine Rg.step 71 F_Arranger_init_70 rfl (fun _ => rfl) ?_
  refine Rg.bip 73 F_Arranger_init_71 rfl rfl ?_
  refine Rg.call 76 F_Arranger_init_73 rfl (one_I (by decide +kernel) rM_13_36 (by decide) (by simp) rfl rfl) (Nat.le_of_ble_eq_true rfl) (Cg.inT (k := 9) hb rfl (fun m1 h1 => c_Fr_init (n := 12) h1 (by omega) (by decide))) ?_
  refine Rg.put 79 F_Arranger_init_76 rfl rF_13_43 (gOT hb) (by omega) (Nat.le_of_ble_eq_true rfl) (Or.inr (Or.inr ⟨rfl, rfl⟩)) rfl (sOT hb) ?_
  refine Rg.step 80 F_Arranger_init_79 rfl (fun _ => rfl) ?_
  refine Rg.bip 82 F_Arranger_init_80 rfl rfl ?_
  refine Rg.newT (j := 12) (k := 12) 84 F_Arranger_init_82 rfl rfl (by decide) (by decide) hb rfl (nwZ 12) ?_
  refine Rg.put 87 F_Arranger_init_84 rfl rF_13_46 (gOT hb) (by omega) (Nat.le_of_ble_eq_true rfl) (Or.inr (Or.inr ⟨rfl, rfl⟩)) rfl (sOT hb) ?_
  refine Rg.step 88 F_Arranger_init_87 rfl (fun _ => rfl) ?_
  refine Rg.bip 90 F_Arranger_init_88 rfl rfl ?_
  refine Rg.newT (j := 12) (k := 13) 92 F_Arranger_init_90 rfl rfl (by decide) (by decide) hb rfl (nwL 12) ?_
  refine Rg.put 95 F_Arranger_init_92 rfl rF_13_50 (gOT hb) (by omega) (Nat.le_of_ble_eq_true rfl) (Or.inr (Or.inr ⟨rfl, rfl⟩)) rfl (sOT hb) ?_
  refine Rg.step 96 F_Arranger_init_95 rfl (fun _ => rfl) ?_
  refine Rg.bip 98 F_Arranger_init_96 rfl rfl ?_
  refine Rg.newT (j := 12) (k := 14) 100 F_Arranger_init_98 rfl rfl (by decide) (by decide) hb rfl (nwL 12) ?_
  refine Rg.put 103 F_Arranger_init_100 rfl rF_13_53 (gOT hb) (by omega) (Nat.le_of_ble_eq_true rfl) (Or.inr (Or.inr ⟨rfl, rfl⟩)) rfl (sOT hb) ?_
  refine Rg.step 104 F_Arranger_init_103 rfl (fun _ => rfl) ?_
  refine Rg.newOT (k := 15) 107 F_Arranger_init_104 rfl rC_13_34 rfl rfl (by decide) rfl hb rfl ?_
  refine Rg.step 108 F_Arranger_init_107 rfl (fun _ => rfl) ?_
  refine Rg.step 109 F_Arranger_init_108 rfl (fun _ => rfl) ?_
  refine Rg.call 112 F_Arranger_init_109 rfl (one_I (by decide +kernel) rM_13_36 (by decide) (by simp) rfl rfl) (Nat.le_of_ble_eq_true rfl) (Cg.inT (k := 15) hb rfl (fun m1 h1 => c_Fr_init (n := 1) h1 (by omega) (by decide))) ?_
  refine Rg.put 115 F_Arranger_init_112 rfl rF_13_56 (gOT hb) (by omega) (Nat.le_of_ble_eq_true rfl) (Or.inr (Or.inr ⟨rfl, rfl⟩)) rfl (sOT hb) ?_
  refine Rg.step 116 F_Arranger_init_115 rfl (fun _ => rfl) ?_
  refine Rg.step 117 F_Arranger_init_116 rfl (fun _ => rfl) ?_
  exact Rg.weak hl (by simp [lput1, lput2, Value.category, fi0, fi1, fi2, fi3] <;> first | rfl | exact ⟨rfl, rfl⟩) (by simp [lput1, lput2, Value.category, fi0, fi1, fi2, fi3] <;> first | rfl | exact ⟨rfl, rfl⟩)
theorem c_PJ_init {m : AM} {b : Nat} (hb : m.length = b) (h2 : 2 ≤ b)  : Cg false (d + 4) m_PJ_init [.ref b] (m ++ [.inr (0, [.null, .null, .null, .null, .null, .null])]) (.inl none) (m ++ XPJ b) := by
  refine Cg.of (Nat.le_of_ble_eq_true rfl) ?_
  change Rg _ _ _ _ 0 [(0, .ref b)] [] (m ++ (_ :: ([] : AM))) _ _
  refine Rg.step 1 F_PJ_init_0 rfl (fun _ => rfl) ?_
  refine Rg.step 4 F_PJ_init_1 (by dsimp only [one]; rw [show rX (mH m_PJ_init) 1 = some 0 from rX_1_1]; rfl) (fun _ => rfl) ?_
  refine Rg.step 5 F_PJ_init_4 rfl (fun _ => rfl) ?_
  refine Rg.newOT (k := 0) 8 F_PJ_init_5 rfl rC_1_7 rfl rfl (by decide) rfl hb rfl ?_
  refine Rg.step 9 F_PJ_init_8 rfl (fun _ => rfl) ?_
  refine Rg.step 10 F_PJ_init_9 rfl (fun _ => rfl) ?_
  refine Rg.call 13 F_PJ_init_10 rfl (one_I (by decide +kernel) rM_1_9 (by decide) (by simp) rfl rfl) (Nat.le_of_ble_eq_true rfl) (Cg.inT (k := 0) hb rfl (fun m1 h1 => c_Fr_init (n := 2) h1 (by omega) (by decide))) ?_
  refine Rg.put 16 F_PJ_init_13 rfl rF_1_12 (gOT hb) (by omega) (Nat.le_of_ble_eq_true rfl) (Or.inr (Or.inr ⟨rfl, rfl⟩)) rfl (sOT hb) ?_
  refine Rg.step 17 F_PJ_init_16 rfl (fun _ => rfl) ?_
  refine Rg.newOT (k := 3) 20 F_PJ_init_17 rfl rC_1_18 rfl rfl (by decide) rfl hb rfl ?_
  refine Rg.step 21 F_PJ_init_20 rfl (fun _ => rfl) ?_
  refine Rg.call 24 F_PJ_init_21 rfl (one_I (by decide +kernel) rM_1_20 (by decide) (by simp) rfl rfl) (Nat.le_of_ble_eq_true rfl) (Cg.inT (k := 3) hb rfl (fun m1 h1 => c_Ta_init h1 (by omega))) ?_
  refine Rg.put 27 F_PJ_init_24 rfl rF_1_21 (gOT hb) (by omega) (Nat.le_of_ble_eq_true rfl) (Or.inr (Or.inr ⟨rfl, rfl⟩)) rfl (sOT hb) ?_
  refine Rg.step 28 F_PJ_init_27 rfl (fun _ => rfl) ?_
  refine Rg.newOT (k := 16) 31 F_PJ_init_28 rfl rC_1_25 rfl rfl (by decide) rfl hb rfl ?_
  refine Rg.step 32 F_PJ_init_31 rfl (fun _ => rfl) ?_
  refine Rg.call 35 F_PJ_init_32 rfl (one_I (by decide +kernel) rM_1_27 (by decide) (by simp) rfl rfl) (Nat.le_of_ble_eq_true rfl) (Cg.inT (k := 16) hb rfl (fun m1 h1 => c_Pl_init h1 (by omega))) ?_
  refine Rg.put 38 F_PJ_init_35 rfl rF_1_28 (gOT hb) (by omega) (Nat.le_of_ble_eq_true rfl) (Or.inr (Or.inr ⟨rfl, rfl⟩)) rfl (sOT hb) ?_
  refine Rg.step 39 F_PJ_init_38 rfl (fun _ => rfl) ?_
  refine Rg.newOT (k := 25) 42 F_PJ_init_39 rfl rC_1_32 rfl rfl (by decide) rfl hb rfl ?_
  refine Rg.step 43 F_PJ_init_42 rfl (fun _ => rfl) ?_
  refine Rg.call 46 F_PJ_init_43 rfl (one_I (by decide +kernel) rM_1_34 (by decide) (by simp) rfl rfl) (Nat.le_of_ble_eq_true rfl) (Cg.inT (k := 25) hb rfl (fun m1 h1 => c_Ve_init h1 (by omega))) ?_
  refine Rg.put 49 F_PJ_init_46 rfl rF_1_35 (gOT hb) (by omega) (Nat.le_of_ble_eq_true rfl) (Or.inr (Or.inr ⟨rfl, rfl⟩)) rfl (sOT hb) ?_
  refine Rg.step 50 F_PJ_init_49 rfl (fun _ => rfl) ?_
  refine Rg.newOT (k := 30) 53 F_PJ_init_50 rfl rC_1_39 rfl rfl (by decide) rfl hb rfl ?_
  refine Rg.step 54 F_PJ_init_53 rfl (fun _ => rfl) ?_
  refine Rg.call 57 F_PJ_init_54 rfl (one_I (by decide +kernel) rM_1_41 (by decide) (by simp) rfl rfl) (Nat.le_of_ble_eq_true rfl) (Cg.inT (k := 30) hb rfl (fun m1 h1 => c_Ju_init h1 (by omega))) ?_
  refine Rg.put 60 F_PJ_init_57 rfl rF_1_42 (gOT hb) (by omega) (Nat.le_of_ble_eq_true rfl) (Or.inr (Or.inr ⟨rfl, rfl⟩)) rfl (sOT hb) ?_
  refine Rg.step 61 F_PJ_init_60 rfl (fun _ => rfl) ?_
  refine Rg.newOT (k := 46) 64 F_PJ_init_61 rfl rC_1_46 rfl rfl (by decide) rfl hb rfl ?_
  refine Rg.step 65 F_PJ_init_64 rfl (fun _ => rfl) ?_
  refine Rg.call 68 F_PJ_init_65 rfl (one_I (by decide +kernel) rM_1_48 (by decide) (by simp) rfl rfl) (Nat.le_of_ble_eq_true rfl) (Cg.inT (k := 46) hb rfl (fun m1 h1 => c_Ar_init h1 (by omega))) ?_
  refine Rg.put 71 F_PJ_init_68 rfl rF_1_49 (gOT hb) (by omega) (Nat.le_of_ble_eq_true rfl) (Or.inr (Or.inr ⟨rfl, rfl⟩)) rfl (sOT hb) ?_
  exact Rg.retV F_PJ_init_71 rfl rfl
theorem sb_new : SB (fun _ _ => False) (fun _ _ => 0) (fun _ _ => 1) = SS 49 25 := by
  unfold SB
  have : stc (fun _ _ => False) (fun _ _ => 0) (fun _ _ => 1) = (fun j : Nat => if j % 4 = 0 then (.inr (6, [.int 0, .ref (69 + 4 * (j / 4))]) : AC) else if j % 4 = 1 then .inr (3, [.ref (70 + 4 * (j / 4)), .ref (71 + 4 * (j / 4))]) else if j % 4 = 2 then .inl (.long, aL 8 (fun _ => 0)) else .inl (.long, aL 8 (fun _ => 1))) := by
    funext j
    unfold stc
    rw [mk_zero]
  rw [this]
  rfl
theorem xpj_cut {s0 s1 : AC} : [s0, s1] ++ XPJ 2 = ([s0, s1, .inr (0, [.ref (2 + 1), .ref (2 + 4), .ref (2 + 17), .ref (2 + 26), .ref (2 + 31), .ref (2 + 47)])] ++ (XFr 2 (2 + 1) ++ (XTa (2 + 4) ++ (XPl (2 + 17) ++ (XVe (2 + 26) ++ (XJu (2 + 31) ++ (oAr (2 + 47) :: (.inl (.object "PlanJudge$State", vsA (2 + 47) 25) :: UAr (2 + 47))))))))) ++ SS (2 + 47) 25 := by
  unfold XPJ XAr
  simp only [List.append_assoc, List.cons_append, List.nil_append]
theorem vsA_all {b : Nat} : vsA b 25 = (List.range 25).map (fun k : Nat => Value.ref (b + 19 + 4 * k)) := by
  unfold vsA
  refine List.map_congr_left (fun j hj => ?_)
  rw [if_pos (List.mem_range.mp hj)]
theorem mc_new {s0 s1 : AC} : [s0, s1] ++ XPJ 2 = (MC s0 s1 (fun _ => 0) (fun _ => 1) (fun _ => False) (fun _ => False) 1 0 0 (fun _ => False) (fun _ => 0) (fun _ => 1) (up1 (fun _ => 0) 0 (nN 1 1000)) (up1 (fun _ => 1) 0 (nD 1 1000)) (fun _ => -1) (fun _ => 0) (fun _ => 1) 0 0 (fun _ => False) (fun _ => 0) (fun _ => 0) (fun _ => 1) (fun _ => 0) (fun _ => 1) (fun _ => 0) 0 0 (-1) (fun _ => False) (fun _ => 0) (fun _ => 1) (fun _ => False) 0 (fun _ => 0) (fun _ => 1) (fun _ => 0) (fun _ => 0) (fun _ => 1) (fun _ => False) (fun _ => 0) (fun _ => 1) (fun _ => False) (fun _ => 0) (fun _ => 1) 0 0 (fun _ => False) 0 0 (fun _ => 0) (fun _ => 0) (fun _ => 0) (fun _ => 0) (fun _ => 0) (fun _ => 0) (fun _ => 1) (fun _ => 0) (fun _ => 1) (fun _ => False) (fun _ => 0) (fun _ => 0) (fun _ => 0) (fun _ => 1) (fun _ _ => False) (fun _ _ => 0) (fun _ _ => 1) []) := by
  rw [xpj_cut, vsA_all]
  unfold MC
  rw [List.append_nil, sb_new]
  refine congrArg (fun l : AM => l ++ SS 49 25) ?_
  unfold encC
  rw [mk_zero]
  simp only [XFr, XTa, XPl, XVe, XJu, XSt, XAl, oAr, UAr, List.cons_append, List.nil_append]
  rfl
end R92
