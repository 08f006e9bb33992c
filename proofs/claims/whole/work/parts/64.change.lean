/-! Actions of the class: what they change, and how long they last. -/
theorem set_same {α : Type} {l : List α} {i : Nat} {x : α} (h : l[i]? = some x) : l.set i x = l := by
  apply List.ext_getElem?
  intro j
  by_cases hj : i = j
  · subst hj
    rw [List.getElem?_set_self (List.getElem?_eq_some_iff.mp h).1, h]
  · rw [List.getElem?_set_ne hj]
theorem get_set_eq {α : Type} {l : List α} {i : Nat} {x y : α} (h : l[i]? = some x) : (l.set i y)[i]? = some y := List.getElem?_set_self (List.getElem?_eq_some_iff.mp h).1
theorem get_set_ne {α : Type} {l : List α} {i j : Nat} {x : Option α} {y : α} (h : l[j]? = x) (hn : i ≠ j) : (l.set i y)[j]? = x := by rw [List.getElem?_set_ne hn]; exact h
/-- a state is written into the memory -/
noncomputable def stS (mem : AM) (sx fx u v : Nat) (F : Int → Prop) (N D : Int → Int) : AM := (fsI mem u v 8 N D).set sx (.inr (6, [.int (mk F), .ref fx]))
section ST
variable {mem : AM} {sx fx u v : Nat} {F F1 : Int → Prop} {N D N1 D1 : Int → Int}
theorem st_ne (hs : mem[sx]? = some (.inr (6, [.int (mk F), .ref fx]))) (hf : FI mem fx u v 8 N D) : sx ≠ u ∧ sx ≠ v ∧ sx ≠ fx ∧ fx ≠ u ∧ fx ≠ v ∧ u ≠ v := by
  have h1 := FI.o hf
  have h2 := FI.u hf
  have h3 := FI.d hf
  refine ⟨fun z => ?_, fun z => ?_, fun z => ?_, fun z => ?_, fun z => ?_, hf.2.2.2.1⟩
  · rw [z, h2] at hs; cases hs
  · rw [z, h3] at hs; cases hs
  · rw [z, h1] at hs; cases hs
  · rw [z, h2] at h1; cases h1
  · rw [z, h3] at h1; cases h1
theorem stS_s (hs : mem[sx]? = some (.inr (6, [.int (mk F), .ref fx]))) (hf : FI mem fx u v 8 N D) : (stS mem sx fx u v F1 N1 D1)[sx]? = some (.inr (6, [.int (mk F1), .ref fx])) := by
  obtain ⟨n1, n2, -⟩ := st_ne hs hf
  unfold stS fsI
  exact get_set_eq (get_set_ne (get_set_ne hs (Ne.symm n1)) (Ne.symm n2))
theorem stS_ne {a : Nat} {c : Option AC} (h : mem[a]? = c) (h1 : sx ≠ a) (h2 : u ≠ a) (h3 : v ≠ a) : (stS mem sx fx u v F1 N1 D1)[a]? = c := by
  unfold stS fsI
  exact get_set_ne (get_set_ne (get_set_ne h h2) h3) h1
theorem stS_f (hs : mem[sx]? = some (.inr (6, [.int (mk F), .ref fx]))) (hf : FI mem fx u v 8 N D) : FI (stS mem sx fx u v F1 N1 D1) fx u v 8 N1 D1 := by
  obtain ⟨n1, n2, n3, n4, n5, n6⟩ := st_ne hs hf
  refine FI.of (stS_ne (FI.o hf) n3 (Ne.symm n4) (Ne.symm n5)) ?_ ?_ n6 hf.2.2.2.2.1 hf.2.2.2.2.2.1 (by decide)
  · unfold stS fsI
    exact get_set_ne (get_set_ne (get_set_eq (FI.u hf)) (Ne.symm n6)) n1
  · unfold stS fsI
    exact get_set_ne (get_set_eq (get_set_ne (FI.d hf) n6)) n2
theorem stS_self (hs : mem[sx]? = some (.inr (6, [.int (mk F), .ref fx]))) (hf : FI mem fx u v 8 N D) : stS mem sx fx u v F N D = mem := by
  unfold stS fsI
  rw [set_same (FI.u hf), set_same (FI.d hf), set_same hs]
theorem stS_F {F2 : Int → Prop} : (stS mem sx fx u v F1 N1 D1).set sx (.inr (6, [.int (mk F2), .ref fx])) = stS mem sx fx u v F2 N1 D1 := by
  unfold stS
  rw [List.set_set]
theorem stS_N (hs : mem[sx]? = some (.inr (6, [.int (mk F), .ref fx]))) (hf : FI mem fx u v 8 N D) {N2 D2 : Int → Int} : fsI (stS mem sx fx u v F1 N1 D1) u v 8 N2 D2 = stS mem sx fx u v F1 N2 D2 := by
  obtain ⟨n1, n2, n3, n4, n5, n6⟩ := st_ne hs hf
  unfold stS fsI
  rw [List.set_comm _ _ n1, List.set_comm _ _ n2, List.set_comm _ _ n6.symm, List.set_set, List.set_set]
end ST
/-- one change of a number, as the class makes it -/
def calN (way nn nd n d : Int) : Int := if way = 0 then n else nN (rawN way nn nd n d) (rawD way nd d)
def calD (way nn nd n d : Int) : Int := if way = 0 then d else nD (rawN way nn nd n d) (rawD way nd d)
noncomputable def chN (aT aO aH aN aD : Int → Int) (t : Int) : Nat → Int → (Int → Int) × (Int → Int) → Option ((Int → Int) × (Int → Int))
  | 0, _, S => some S
  | n + 1, k, S => if aT k = t then (@ite _ (longP (calN (aH k) (S.1 (aO k)) (S.2 (aO k)) (aN k) (aD k)) (calD (aH k) (S.1 (aO k)) (S.2 (aO k)) (aN k) (aD k))) (Classical.propDecidable _) none (chN aT aO aH aN aD t n (k + 1) (up1 S.1 (aO k) (calN (aH k) (S.1 (aO k)) (S.2 (aO k)) (aN k) (aD k)), up1 S.2 (aO k) (calD (aH k) (S.1 (aO k)) (S.2 (aO k)) (aN k) (aD k))))) else chN aT aO aH aN aD t n (k + 1) S
section R64
variable {mem : AM} {b : Nat} {nd ch cs as : Int} {cT cO cH cN cD aT aO aH aN aD dO dN dD : Int → Int} {nT nF mT mF cG sA : Int → Int → Prop} {me : Int → Prop} {sx fx u v : Nat} {F : Int → Prop} {N D : Int → Int}
theorem ActC.st {F1 : Int → Prop} {N1 D1 : Int → Int} (ha : (ActC mem b nd ch me nT nF cs cT cO cH cN cD mT mF as aT aO aH aN aD cG sA dO dN dD)) (h1 : sx < b) (h2 : u < b) (h3 : v < b) : (ActC (stS mem sx fx u v F1 N1 D1) b nd ch me nT nF cs cT cO cH cN cD mT mF as aT aO aH aN aD cG sA dO dN dD) := fun i hi => stS_ne (ha i hi) (by omega) (by omega) (by omega)
theorem c_Fr_isTooLong {d : Nat}  {a n : Nat} {i : Int} (hf : FI mem a u v n N D) (hi : 0 ≤ i ∧ i < n) (hn : n ≤ 100) (h1 : (-4611686018427387904 < N i ∧ N i < 4611686018427387904)) (h2 : (-4611686018427387904 < D i ∧ D i < 4611686018427387904)) : Cg true d m_Fractions_isTooLong [.ref a, .int (iI i)] mem (.inl (some (.int (bP (longP (N i) (D i)))))) mem := by
  refine Cg.of (Nat.le_of_ble_eq_true rfl) ?_
  change Rg _ _ _ _ 0 [(0, .ref a), (1, .int (iI i))] [] _ _ _
  refine Rg.step 1 F_Fractions_isTooLong_0 rfl (fun _ => rfl) ?_
  refine Rg.getf 4 F_Fractions_isTooLong_1 rfl rF_3_9 (FI.o hf) rfl ?_
  refine Rg.step 5 F_Fractions_isTooLong_4 rfl (fun _ => rfl) ?_
  refine Rg.lld 6 F_Fractions_isTooLong_5 rfl (FI.u hf) (by omega) (by omega) ?_
  refine Rg.ldc2 (n := 1000000000) 9 F_Fractions_isTooLong_6 rfl rJ_3_38 rfl ?_
  refine Rg.lcgt 39 13 F_Fractions_isTooLong_9 F_Fractions_isTooLong_10 rfl rfl (by omega) (by omega) (fun h9 => ?_) (fun h9 => ?_)
  · refine Rg.step 40 F_Fractions_isTooLong_39 rfl (fun _ => rfl) ?_
    refine Rg.step 44 F_Fractions_isTooLong_40 rfl (fun _ => rfl) ?_
    exact Rg.ret1 F_Fractions_isTooLong_44 rfl (by unfold longP; omega) rfl
  · refine Rg.step 14 F_Fractions_isTooLong_13 rfl (fun _ => rfl) ?_
    refine Rg.getf 17 F_Fractions_isTooLong_14 rfl rF_3_9 (FI.o hf) rfl ?_
    refine Rg.step 18 F_Fractions_isTooLong_17 rfl (fun _ => rfl) ?_
    refine Rg.lld 19 F_Fractions_isTooLong_18 rfl (FI.u hf) (by omega) (by omega) ?_
    refine Rg.ldc2 (n := -1000000000) 22 F_Fractions_isTooLong_19 rfl rJ_3_40 rfl ?_
    refine Rg.lclt 39 26 F_Fractions_isTooLong_22 F_Fractions_isTooLong_23 rfl rfl (by omega) (by omega) (fun h22 => ?_) (fun h22 => ?_)
    · refine Rg.step 40 F_Fractions_isTooLong_39 rfl (fun _ => rfl) ?_
      refine Rg.step 44 F_Fractions_isTooLong_40 rfl (fun _ => rfl) ?_
      exact Rg.ret1 F_Fractions_isTooLong_44 rfl (by unfold longP; omega) rfl
    · refine Rg.step 27 F_Fractions_isTooLong_26 rfl (fun _ => rfl) ?_
      refine Rg.getf 30 F_Fractions_isTooLong_27 rfl rF_3_15 (FI.o hf) rfl ?_
      refine Rg.step 31 F_Fractions_isTooLong_30 rfl (fun _ => rfl) ?_
      refine Rg.lld 32 F_Fractions_isTooLong_31 rfl (FI.d hf) (by omega) (by omega) ?_
      refine Rg.ldc2 (n := 1000000000) 35 F_Fractions_isTooLong_32 rfl rJ_3_38 rfl ?_
      refine Rg.lcle 43 39 F_Fractions_isTooLong_35 F_Fractions_isTooLong_36 rfl rfl (by omega) (by omega) (fun h35 => ?_) (fun h35 => ?_)
      · refine Rg.step 44 F_Fractions_isTooLong_43 rfl (fun _ => rfl) ?_
        exact Rg.ret0 F_Fractions_isTooLong_44 rfl (by unfold longP; omega) rfl
      · refine Rg.step 40 F_Fractions_isTooLong_39 rfl (fun _ => rfl) ?_
        refine Rg.step 44 F_Fractions_isTooLong_40 rfl (fun _ => rfl) ?_
        exact Rg.ret1 F_Fractions_isTooLong_44 rfl (by unfold longP; omega) rfl
theorem c_Fr_isAbove {d : Nat}  {a n : Nat} {i w : Int} (hf : FI mem a u v n N D) (hi : 0 ≤ i ∧ i < n) (hn : n ≤ 100) (h1 : (-4611686018427387904 < N i ∧ N i < 4611686018427387904)) (h2 : (-4611686018427387904 < w * D i ∧ w * D i < 4611686018427387904)) : Cg true d m_Fractions_isAbove [.ref a, .int (iI i), .long (lI w)] mem (.inl (some (.int (bP (w * D i < N i))))) mem := by
  refine Cg.of (Nat.le_of_ble_eq_true rfl) ?_
  change Rg _ _ _ _ 0 [(0, .ref a), (1, .int (iI i)), (2, .long (lI w))] [] _ _ _
  refine Rg.step 1 F_Fractions_isAbove_0 rfl (fun _ => rfl) ?_
  refine Rg.getf 4 F_Fractions_isAbove_1 rfl rF_3_9 (FI.o hf) rfl ?_
  refine Rg.step 5 F_Fractions_isAbove_4 rfl (fun _ => rfl) ?_
  refine Rg.lld 6 F_Fractions_isAbove_5 rfl (FI.u hf) (by omega) (by omega) ?_
  refine Rg.step 7 F_Fractions_isAbove_6 rfl (fun _ => rfl) ?_
  refine Rg.step 8 F_Fractions_isAbove_7 rfl (fun _ => rfl) ?_
  refine Rg.getf 11 F_Fractions_isAbove_8 rfl rF_3_15 (FI.o hf) rfl ?_
  refine Rg.step 12 F_Fractions_isAbove_11 rfl (fun _ => rfl) ?_
  refine Rg.lld 13 F_Fractions_isAbove_12 rfl (FI.d hf) (by omega) (by omega) ?_
  refine Rg.mulL 14 F_Fractions_isAbove_13 rfl ?_
  refine Rg.lcle 22 18 F_Fractions_isAbove_14 F_Fractions_isAbove_15 rfl rfl (by omega) (by omega) (fun h14 => ?_) (fun h14 => ?_)
  · refine Rg.step 23 F_Fractions_isAbove_22 rfl (fun _ => rfl) ?_
    exact Rg.ret0 F_Fractions_isAbove_23 rfl (by omega) rfl
  · refine Rg.step 19 F_Fractions_isAbove_18 rfl (fun _ => rfl) ?_
    refine Rg.step 23 F_Fractions_isAbove_19 rfl (fun _ => rfl) ?_
    exact Rg.ret1 F_Fractions_isAbove_23 rfl (by omega) rfl
theorem c_Fr_alter {d : Nat} {a a2 u2 v2 n n2 : Nat} {N2 D2 : Int → Int} {i j way : Int} (hf : FI mem a u v n N D) (hg : FI mem a2 u2 v2 n2 N2 D2) (hv : v2 ≠ u) (hi : 0 ≤ i ∧ i < n) (hj : 0 ≤ j ∧ j < n2) (hn : n ≤ 100 ∧ n2 ≤ 100) (hw : 0 ≤ way ∧ way ≤ 3) (h1 : ¬ way = 0 → (-4611686018427387904 < rawN way (N i) (D i) (N2 j) (D2 j) ∧ rawN way (N i) (D i) (N2 j) (D2 j) < 4611686018427387904) ∧ 0 < rawD way (D i) (D2 j) ∧ rawD way (D i) (D2 j) < 4611686018427387904) : Cg false (d + 1) m_Fractions_alter [.ref a, .int (iI i), .int (iI way), .ref a2, .int (iI j)] mem (.inl none) (fsI mem u v n (up1 N i (calN way (N i) (D i) (N2 j) (D2 j))) (up1 D i (calD way (N i) (D i) (N2 j) (D2 j)))) := by
  have hc : way = 0 ∨ way = 1 ∨ way = 2 ∨ way = 3 := by omega
  rcases hc with rfl | rfl | rfl | rfl
  · skip
    rw [show calN 0 (N i) (D i) (N2 j) (D2 j) = N2 j from rfl, show calD 0 (N i) (D i) (N2 j) (D2 j) = D2 j from rfl]
    refine Cg.of (Nat.le_of_ble_eq_true rfl) ?_
    change Rg _ _ _ _ 0 [(0, .ref a), (1, .int (iI i)), (2, .int (iI 0)), (3, .ref a2), (4, .int (iI j))] [] _ _ _
    refine Rg.step 1 F_Fractions_alter_0 rfl (fun _ => rfl) ?_
    refine Rg.step 28 F_Fractions_alter_1 rfl (fun _ => rfl) ?_
    refine Rg.step 29 F_Fractions_alter_28 rfl (fun _ => rfl) ?_
    refine Rg.step 30 F_Fractions_alter_29 rfl (fun _ => rfl) ?_
    refine Rg.step 31 F_Fractions_alter_30 rfl (fun _ => rfl) ?_
    refine Rg.step 33 F_Fractions_alter_31 rfl (fun _ => rfl) ?_
    refine Rg.call 36 F_Fractions_alter_33 rfl (one_V rM_3_30 (by decide) (by simp) rfl rfl (FI.o hf) rfl) (Nat.le_of_ble_eq_true rfl) (c_FrI_copy _ hf hg hv hi hj) ?_
    refine Rg.step 174 F_Fractions_alter_36 rfl (fun _ => rfl) ?_
    exact Rg.retV F_Fractions_alter_174 rfl rfl
  · skip
    have e1 : rawN 1 (N i) (D i) (N2 j) (D2 j) = N i * D2 j + N2 j * D i := by unfold rawN; simp
    have e2 : rawD 1 (D i) (D2 j) = D i * D2 j := by unfold rawD; simp
    have q1 : calN 1 (N i) (D i) (N2 j) (D2 j) = nN (N i * D2 j + N2 j * D i) (D i * D2 j) := by unfold calN; rw [e1, e2]; simp
    have q2 : calD 1 (N i) (D i) (N2 j) (D2 j) = nD (N i * D2 j + N2 j * D i) (D i * D2 j) := by unfold calD; rw [e1, e2]; simp
    have h2 := h1 (by omega)
    rw [e1, e2] at h2
    rw [q1, q2]
    refine Cg.of (Nat.le_of_ble_eq_true rfl) ?_
    change Rg _ _ _ _ 0 [(0, .ref a), (1, .int (iI i)), (2, .int (iI 1)), (3, .ref a2), (4, .int (iI j))] [] _ _ _
    refine Rg.step 1 F_Fractions_alter_0 rfl (fun _ => rfl) ?_
    refine Rg.step 39 F_Fractions_alter_1 rfl (fun _ => rfl) ?_
    refine Rg.step 40 F_Fractions_alter_39 rfl (fun _ => rfl) ?_
    refine Rg.step 41 F_Fractions_alter_40 rfl (fun _ => rfl) ?_
    refine Rg.step 42 F_Fractions_alter_41 rfl (fun _ => rfl) ?_
    refine Rg.getf 45 F_Fractions_alter_42 rfl rF_3_9 (FI.o hf) rfl ?_
    refine Rg.step 46 F_Fractions_alter_45 rfl (fun _ => rfl) ?_
    refine Rg.lld 47 F_Fractions_alter_46 rfl (FI.u hf) (by omega) (by omega) ?_
    refine Rg.step 48 F_Fractions_alter_47 rfl (fun _ => rfl) ?_
    refine Rg.getf 51 F_Fractions_alter_48 rfl rF_3_15 (FI.o hg) rfl ?_
    refine Rg.step 53 F_Fractions_alter_51 rfl (fun _ => rfl) ?_
    refine Rg.lld 54 F_Fractions_alter_53 rfl (FI.d hg) (by omega) (by omega) ?_
    refine Rg.mulL 55 F_Fractions_alter_54 rfl ?_
    refine Rg.step 56 F_Fractions_alter_55 rfl (fun _ => rfl) ?_
    refine Rg.getf 59 F_Fractions_alter_56 rfl rF_3_9 (FI.o hg) rfl ?_
    refine Rg.step 61 F_Fractions_alter_59 rfl (fun _ => rfl) ?_
    refine Rg.lld 62 F_Fractions_alter_61 rfl (FI.u hg) (by omega) (by omega) ?_
    refine Rg.step 63 F_Fractions_alter_62 rfl (fun _ => rfl) ?_
    refine Rg.getf 66 F_Fractions_alter_63 rfl rF_3_15 (FI.o hf) rfl ?_
    refine Rg.step 67 F_Fractions_alter_66 rfl (fun _ => rfl) ?_
    refine Rg.lld 68 F_Fractions_alter_67 rfl (FI.d hf) (by omega) (by omega) ?_
    refine Rg.mulL 69 F_Fractions_alter_68 rfl ?_
    refine Rg.addL 70 F_Fractions_alter_69 rfl ?_
    refine Rg.step 71 F_Fractions_alter_70 rfl (fun _ => rfl) ?_
    refine Rg.getf 74 F_Fractions_alter_71 rfl rF_3_15 (FI.o hf) rfl ?_
    refine Rg.step 75 F_Fractions_alter_74 rfl (fun _ => rfl) ?_
    refine Rg.lld 76 F_Fractions_alter_75 rfl (FI.d hf) (by omega) (by omega) ?_
    refine Rg.step 77 F_Fractions_alter_76 rfl (fun _ => rfl) ?_
    refine Rg.getf 80 F_Fractions_alter_77 rfl rF_3_15 (FI.o hg) rfl ?_
    refine Rg.step 82 F_Fractions_alter_80 rfl (fun _ => rfl) ?_
    refine Rg.lld 83 F_Fractions_alter_82 rfl (FI.d hg) (by omega) (by omega) ?_
    refine Rg.mulL 84 F_Fractions_alter_83 rfl ?_
    refine Rg.call 87 F_Fractions_alter_84 rfl (one_V rM_3_34 (by decide) (by simp) rfl rfl (FI.o hf) rfl) (Nat.le_of_ble_eq_true rfl) (c_FrI_put _ hf hi h2.1 h2.2) ?_
    refine Rg.step 174 F_Fractions_alter_87 rfl (fun _ => rfl) ?_
    exact Rg.retV F_Fractions_alter_174 rfl rfl
  · skip
    have e1 : rawN 2 (N i) (D i) (N2 j) (D2 j) = N i * D2 j - N2 j * D i := by unfold rawN; simp [Int.sub_eq_add_neg, Int.neg_mul]
    have e2 : rawD 2 (D i) (D2 j) = D i * D2 j := by unfold rawD; simp
    have q1 : calN 2 (N i) (D i) (N2 j) (D2 j) = nN (N i * D2 j - N2 j * D i) (D i * D2 j) := by unfold calN; rw [e1, e2]; simp
    have q2 : calD 2 (N i) (D i) (N2 j) (D2 j) = nD (N i * D2 j - N2 j * D i) (D i * D2 j) := by unfold calD; rw [e1, e2]; simp
    have h2 := h1 (by omega)
    rw [e1, e2] at h2
    rw [q1, q2]
    refine Cg.of (Nat.le_of_ble_eq_true rfl) ?_
    change Rg _ _ _ _ 0 [(0, .ref a), (1, .int (iI i)), (2, .int (iI 2)), (3, .ref a2), (4, .int (iI j))] [] _ _ _
    refine Rg.step 1 F_Fractions_alter_0 rfl (fun _ => rfl) ?_
    refine Rg.step 90 F_Fractions_alter_1 rfl (fun _ => rfl) ?_
    refine Rg.step 91 F_Fractions_alter_90 rfl (fun _ => rfl) ?_
    refine Rg.step 92 F_Fractions_alter_91 rfl (fun _ => rfl) ?_
    refine Rg.step 93 F_Fractions_alter_92 rfl (fun _ => rfl) ?_
    refine Rg.getf 96 F_Fractions_alter_93 rfl rF_3_9 (FI.o hf) rfl ?_
    refine Rg.step 97 F_Fractions_alter_96 rfl (fun _ => rfl) ?_
    refine Rg.lld 98 F_Fractions_alter_97 rfl (FI.u hf) (by omega) (by omega) ?_
    refine Rg.step 99 F_Fractions_alter_98 rfl (fun _ => rfl) ?_
    refine Rg.getf 102 F_Fractions_alter_99 rfl rF_3_15 (FI.o hg) rfl ?_
    refine Rg.step 104 F_Fractions_alter_102 rfl (fun _ => rfl) ?_
    refine Rg.lld 105 F_Fractions_alter_104 rfl (FI.d hg) (by omega) (by omega) ?_
    refine Rg.mulL 106 F_Fractions_alter_105 rfl ?_
    refine Rg.step 107 F_Fractions_alter_106 rfl (fun _ => rfl) ?_
    refine Rg.getf 110 F_Fractions_alter_107 rfl rF_3_9 (FI.o hg) rfl ?_
    refine Rg.step 112 F_Fractions_alter_110 rfl (fun _ => rfl) ?_
    refine Rg.lld 113 F_Fractions_alter_112 rfl (FI.u hg) (by omega) (by omega) ?_
    refine Rg.step 114 F_Fractions_alter_113 rfl (fun _ => rfl) ?_
    refine Rg.getf 117 F_Fractions_alter_114 rfl rF_3_15 (FI.o hf) rfl ?_
    refine Rg.step 118 F_Fractions_alter_117 rfl (fun _ => rfl) ?_
    refine Rg.lld 119 F_Fractions_alter_118 rfl (FI.d hf) (by omega) (by omega) ?_
    refine Rg.mulL 120 F_Fractions_alter_119 rfl ?_
    refine Rg.subL 121 F_Fractions_alter_120 rfl ?_
    refine Rg.step 122 F_Fractions_alter_121 rfl (fun _ => rfl) ?_
    refine Rg.getf 125 F_Fractions_alter_122 rfl rF_3_15 (FI.o hf) rfl ?_
    refine Rg.step 126 F_Fractions_alter_125 rfl (fun _ => rfl) ?_
    refine Rg.lld 127 F_Fractions_alter_126 rfl (FI.d hf) (by omega) (by omega) ?_
    refine Rg.step 128 F_Fractions_alter_127 rfl (fun _ => rfl) ?_
    refine Rg.getf 131 F_Fractions_alter_128 rfl rF_3_15 (FI.o hg) rfl ?_
    refine Rg.step 133 F_Fractions_alter_131 rfl (fun _ => rfl) ?_
    refine Rg.lld 134 F_Fractions_alter_133 rfl (FI.d hg) (by omega) (by omega) ?_
    refine Rg.mulL 135 F_Fractions_alter_134 rfl ?_
    refine Rg.call 138 F_Fractions_alter_135 rfl (one_V rM_3_34 (by decide) (by simp) rfl rfl (FI.o hf) rfl) (Nat.le_of_ble_eq_true rfl) (c_FrI_put _ hf hi h2.1 h2.2) ?_
    refine Rg.step 174 F_Fractions_alter_138 rfl (fun _ => rfl) ?_
    exact Rg.retV F_Fractions_alter_174 rfl rfl
  · skip
    have e1 : rawN 3 (N i) (D i) (N2 j) (D2 j) = N i * N2 j := by unfold rawN; simp
    have e2 : rawD 3 (D i) (D2 j) = D i * D2 j := by unfold rawD; simp
    have q1 : calN 3 (N i) (D i) (N2 j) (D2 j) = nN (N i * N2 j) (D i * D2 j) := by unfold calN; rw [e1, e2]; simp
    have q2 : calD 3 (N i) (D i) (N2 j) (D2 j) = nD (N i * N2 j) (D i * D2 j) := by unfold calD; rw [e1, e2]; simp
    have h2 := h1 (by omega)
    rw [e1, e2] at h2
    rw [q1, q2]
    refine Cg.of (Nat.le_of_ble_eq_true rfl) ?_
    change Rg _ _ _ _ 0 [(0, .ref a), (1, .int (iI i)), (2, .int (iI 3)), (3, .ref a2), (4, .int (iI j))] [] _ _ _
    refine Rg.step 1 F_Fractions_alter_0 rfl (fun _ => rfl) ?_
    refine Rg.step 141 F_Fractions_alter_1 rfl (fun _ => rfl) ?_
    refine Rg.step 142 F_Fractions_alter_141 rfl (fun _ => rfl) ?_
    refine Rg.step 143 F_Fractions_alter_142 rfl (fun _ => rfl) ?_
    refine Rg.step 144 F_Fractions_alter_143 rfl (fun _ => rfl) ?_
    refine Rg.getf 147 F_Fractions_alter_144 rfl rF_3_9 (FI.o hf) rfl ?_
    refine Rg.step 148 F_Fractions_alter_147 rfl (fun _ => rfl) ?_
    refine Rg.lld 149 F_Fractions_alter_148 rfl (FI.u hf) (by omega) (by omega) ?_
    refine Rg.step 150 F_Fractions_alter_149 rfl (fun _ => rfl) ?_
    refine Rg.getf 153 F_Fractions_alter_150 rfl rF_3_9 (FI.o hg) rfl ?_
    refine Rg.step 155 F_Fractions_alter_153 rfl (fun _ => rfl) ?_
    refine Rg.lld 156 F_Fractions_alter_155 rfl (FI.u hg) (by omega) (by omega) ?_
    refine Rg.mulL 157 F_Fractions_alter_156 rfl ?_
    refine Rg.step 158 F_Fractions_alter_157 rfl (fun _ => rfl) ?_
    refine Rg.getf 161 F_Fractions_alter_158 rfl rF_3_15 (FI.o hf) rfl ?_
    refine Rg.step 162 F_Fractions_alter_161 rfl (fun _ => rfl) ?_
    refine Rg.lld 163 F_Fractions_alter_162 rfl (FI.d hf) (by omega) (by omega) ?_
    refine Rg.step 164 F_Fractions_alter_163 rfl (fun _ => rfl) ?_
    refine Rg.getf 167 F_Fractions_alter_164 rfl rF_3_15 (FI.o hg) rfl ?_
    refine Rg.step 169 F_Fractions_alter_167 rfl (fun _ => rfl) ?_
    refine Rg.lld 170 F_Fractions_alter_169 rfl (FI.d hg) (by omega) (by omega) ?_
    refine Rg.mulL 171 F_Fractions_alter_170 rfl ?_
    refine Rg.call 174 F_Fractions_alter_171 rfl (one_V rM_3_34 (by decide) (by simp) rfl rfl (FI.o hf) rfl) (Nat.le_of_ble_eq_true rfl) (c_FrI_put _ hf hi h2.1 h2.2) ?_
    exact Rg.retV F_Fractions_alter_174 rfl rfl
theorem chs_loop {d n0 : Nat} (h2 : 2 ≤ b) (ha : (ActC mem b nd ch me nT nF cs cT cO cH cN cD mT mF as aT aO aH aN aD cG sA dO dN dD)) (hs : mem[sx]? = some (.inr (6, [.int (mk F), .ref fx]))) (hf : FI mem fx u v 8 N D) (d1 : sx < b) (d2 : u < b) (d3 : v < b) (g1 : 2 ≤ sx) (wC : 0 ≤ as ∧ as ≤ 6) (wK : ∀ i, 0 ≤ i → i < as → (0 ≤ aT i ∧ aT i ≤ 2) ∧ (0 ≤ aO i ∧ aO i < 8) ∧ (0 ≤ aH i ∧ aH i ≤ 3) ∧ (-100000 ≤ aN i ∧ aN i ≤ 100000) ∧ 0 < aD i ∧ aD i ≤ 1000) {t : Int} (ht : 0 ≤ t ∧ t ≤ 2) {F1 : Int → Prop} : ∀ (n : Nat) (k : Int) (N1 D1 : Int → Int), k + n = as → 0 ≤ k → (∀ n, 0 ≤ n → n < 8 → (-1000000000 ≤ N1 n ∧ N1 n ≤ 1000000000) ∧ 0 < D1 n ∧ D1 n ≤ 1000000000) → ∃ N2 D2, ((∃ S, chN aT aO aH aN aD t n k (N1, D1) = some S) → chN aT aO aH aN aD t n k (N1, D1) = some (N2, D2) ∧ (∀ n, 0 ≤ n → n < 8 → (-1000000000 ≤ N2 n ∧ N2 n ≤ 1000000000) ∧ 0 < D2 n ∧ D2 n ≤ 1000000000)) ∧ Rg false (d + 2) m_Action_changeState n0 26 [(3, .int (iI k)), (0, .ref b), (1, .ref sx), (2, .int (iI t))] [] (stS mem sx fx u v F1 N1 D1) (.inl (some (.int (bP (∃ S, chN aT aO aH aN aD t n k (N1, D1) = some S))))) (stS mem sx fx u v F1 N2 D2) := by
  intro n
  induction n with
  | zero =>
    intro k N1 D1 hk hk2 wN
    refine ⟨N1, D1, fun _ => ⟨rfl, wN⟩, ?_⟩
    refine Rg.step 27 F_Action_changeState_26 rfl (fun _ => rfl) ?_
    refine Rg.step 28 F_Action_changeState_27 rfl (fun _ => rfl) ?_
    refine Rg.getf 31 F_Action_changeState_28 rfl rF_17_33 (gA_0 (ha.st d1 d2 d3)) rfl ?_
    refine Rg.getf 34 F_Action_changeState_31 rfl rF_17_89 (gA_12 (ha.st d1 d2 d3)) rfl ?_
    refine Rg.icgeI 107 37 F_Action_changeState_34 rfl rfl (by omega) (by omega) (fun _ => ?_) (fun h34 => by omega)
    refine Rg.step 108 F_Action_changeState_107 rfl (fun _ => rfl) ?_
    exact Rg.ret1 F_Action_changeState_108 rfl ⟨_, rfl⟩ rfl
  | succ n ih =>
    intro k N1 D1 hk hk2 wN
    obtain ⟨k1, k2, k3, k4, k5, k6⟩ := wK k hk2 (by omega)
    by_cases hT : aT k = t
    · have n1 := wN (aO k) k2.1 k2.2
      have m1 := mul_bd (a := N1 (aO k)) (b := aD k) (A := 1000000000) (B := 1000) (by omega) (by omega)
      have m2 := mul_bd (a := aN k) (b := D1 (aO k)) (A := 100000) (B := 1000000000) (by omega) (by omega)
      have m3 := mul_bd (a := N1 (aO k)) (b := aN k) (A := 1000000000) (B := 100000) (by omega) (by omega)
      have m4 := mul_ps (a := D1 (aO k)) (b := aD k) (A := 1000000000) (B := 1000) (by omega) (by omega)
      have m5 : -aN k * D1 (aO k) = -(aN k * D1 (aO k)) := Int.neg_mul _ _
      have hr : ¬ aH k = 0 → (-1000000000000000 ≤ rawN (aH k) (N1 (aO k)) (D1 (aO k)) (aN k) (aD k) ∧ rawN (aH k) (N1 (aO k)) (D1 (aO k)) (aN k) (aD k) ≤ 1000000000000000) ∧ 0 < rawD (aH k) (D1 (aO k)) (aD k) ∧ rawD (aH k) (D1 (aO k)) (aD k) ≤ 1000000000000 := fun z => by
        unfold rawN rawD
        rw [if_neg z, if_neg z]
        refine ⟨?_, by omega⟩
        split
        · omega
        · split <;> omega
      have hal := c_Fr_alter (d := d) (way := aH k) (i := aO k) (j := k) (stS_f (F1 := F1) (N1 := N1) (D1 := D1) hs hf) (gFA_a h2 (ha.st d1 d2 d3)) (by omega) k2 (by omega) (by decide) k3 (fun z => by have := hr z; omega)
      rw [stS_N hs hf] at hal
      have hcb : (-1000000000000000 ≤ (calN (aH k) (N1 (aO k)) (D1 (aO k)) (aN k) (aD k)) ∧ (calN (aH k) (N1 (aO k)) (D1 (aO k)) (aN k) (aD k)) ≤ 1000000000000000) ∧ 0 < (calD (aH k) (N1 (aO k)) (D1 (aO k)) (aN k) (aD k)) ∧ (calD (aH k) (N1 (aO k)) (D1 (aO k)) (aN k) (aD k)) ≤ 1000000000000 := by
        unfold calN calD
        by_cases z : aH k = 0
        · rw [if_pos z, if_pos z]
          omega
        · rw [if_neg z, if_neg z]
          have := hr z
          have y1 := nN_bd (B := 1000000000000000) this.2.1 this.1
          have y2 := nD_pos (n := rawN (aH k) (N1 (aO k)) (D1 (aO k)) (aN k) (aD k)) this.2.1
          omega
      have u1 : up1 N1 (aO k) (calN (aH k) (N1 (aO k)) (D1 (aO k)) (aN k) (aD k)) (aO k) = (calN (aH k) (N1 (aO k)) (D1 (aO k)) (aN k) (aD k)) := up1_eq _ _ _
      have u2 : up1 D1 (aO k) (calD (aH k) (N1 (aO k)) (D1 (aO k)) (aN k) (aD k)) (aO k) = (calD (aH k) (N1 (aO k)) (D1 (aO k)) (aN k) (aD k)) := up1_eq _ _ _
      by_cases hL : longP (calN (aH k) (N1 (aO k)) (D1 (aO k)) (aN k) (aD k)) (calD (aH k) (N1 (aO k)) (D1 (aO k)) (aN k) (aD k))
      · have hN : ¬ ∃ S, chN aT aO aH aN aD t (n + 1) k (N1, D1) = some S := by
          rintro ⟨S, hS⟩
          rw [chN, if_pos hT, if_pos hL] at hS
          cases hS
        refine ⟨(up1 N1 (aO k) (calN (aH k) (N1 (aO k)) (D1 (aO k)) (aN k) (aD k))), (up1 D1 (aO k) (calD (aH k) (N1 (aO k)) (D1 (aO k)) (aN k) (aD k))), fun z => absurd z hN, ?_⟩
        refine Rg.step 27 F_Action_changeState_26 rfl (fun _ => rfl) ?_
        refine Rg.step 28 F_Action_changeState_27 rfl (fun _ => rfl) ?_
        refine Rg.getf 31 F_Action_changeState_28 rfl rF_17_33 (gA_0 (ha.st d1 d2 d3)) rfl ?_
        refine Rg.getf 34 F_Action_changeState_31 rfl rF_17_89 (gA_12 (ha.st d1 d2 d3)) rfl ?_
        refine Rg.icgeI 107 37 F_Action_changeState_34 rfl rfl (by omega) (by omega) (fun h34 => by omega) (fun _ => ?_)
        refine Rg.step 38 F_Action_changeState_37 rfl (fun _ => rfl) ?_
        refine Rg.getf 41 F_Action_changeState_38 rfl rF_17_33 (gA_0 (ha.st d1 d2 d3)) rfl ?_
        refine Rg.getf 44 F_Action_changeState_41 rfl rF_17_92 (gA_12 (ha.st d1 d2 d3)) rfl ?_
        refine Rg.step 45 F_Action_changeState_44 rfl (fun _ => rfl) ?_
        refine Rg.ild 46 F_Action_changeState_45 rfl (gA_13 (ha.st d1 d2 d3)) (by omega) (by omega) ?_
        refine Rg.step 47 F_Action_changeState_46 rfl (fun _ => rfl) ?_
        refine Rg.icneI 101 50 F_Action_changeState_47 rfl rfl (by omega) (by omega) (fun h47 => by omega) (fun _ => ?_)
        refine Rg.step 51 F_Action_changeState_50 rfl (fun _ => rfl) ?_
        refine Rg.getf 54 F_Action_changeState_51 rfl rF_17_33 (gA_0 (ha.st d1 d2 d3)) rfl ?_
        refine Rg.getf 57 F_Action_changeState_54 rfl rF_17_98 (gA_12 (ha.st d1 d2 d3)) rfl ?_
        refine Rg.step 58 F_Action_changeState_57 rfl (fun _ => rfl) ?_
        refine Rg.ild 59 F_Action_changeState_58 rfl (gA_14 (ha.st d1 d2 d3)) (by omega) (by omega) ?_
        refine Rg.step 61 F_Action_changeState_59 rfl (fun _ => rfl) ?_
        refine Rg.step 62 F_Action_changeState_61 rfl (fun _ => rfl) ?_
        refine Rg.getf 65 F_Action_changeState_62 rfl rF_17_95 (stS_s hs hf) rfl ?_
        refine Rg.step 67 F_Action_changeState_65 rfl (fun _ => rfl) ?_
        refine Rg.step 68 F_Action_changeState_67 rfl (fun _ => rfl) ?_
        refine Rg.getf 71 F_Action_changeState_68 rfl rF_17_33 (gA_0 (ha.st d1 d2 d3)) rfl ?_
        refine Rg.getf 74 F_Action_changeState_71 rfl rF_17_101 (gA_12 (ha.st d1 d2 d3)) rfl ?_
        refine Rg.step 75 F_Action_changeState_74 rfl (fun _ => rfl) ?_
        refine Rg.ild 76 F_Action_changeState_75 rfl (gA_15 (ha.st d1 d2 d3)) (by omega) (by omega) ?_
        refine Rg.step 77 F_Action_changeState_76 rfl (fun _ => rfl) ?_
        refine Rg.getf 80 F_Action_changeState_77 rfl rF_17_33 (gA_0 (ha.st d1 d2 d3)) rfl ?_
        refine Rg.getf 83 F_Action_changeState_80 rfl rF_17_104 (gA_12 (ha.st d1 d2 d3)) rfl ?_
        refine Rg.step 84 F_Action_changeState_83 rfl (fun _ => rfl) ?_
        refine Rg.call 87 F_Action_changeState_84 rfl (one_V rM_17_114 (by decide) (by simp) rfl rfl (FI.o (stS_f hs hf)) rfl) (Nat.le_of_ble_eq_true rfl) hal ?_
        refine Rg.step 88 F_Action_changeState_87 rfl (fun _ => rfl) ?_
        refine Rg.getf 91 F_Action_changeState_88 rfl rF_17_95 (stS_s hs hf) rfl ?_
        refine Rg.step 93 F_Action_changeState_91 rfl (fun _ => rfl) ?_
        refine Rg.call 96 F_Action_changeState_93 rfl (one_V rM_17_118 (by decide) (by simp) rfl rfl (FI.o (stS_f hs hf)) rfl) (Nat.le_of_ble_eq_true rfl) (Cg.any (c_Fr_isTooLong (stS_f hs hf) k2 (by decide) (by omega) (by omega))) ?_
        rw [u1, u2]
        refine Rg.ifeqP 101 99 F_Action_changeState_96 rfl rfl (fun h96 => absurd hL h96) (fun _ => ?_)
        refine Rg.step 100 F_Action_changeState_99 rfl (fun _ => rfl) ?_
        exact Rg.ret0 F_Action_changeState_100 rfl hN rfl
      · have hE : chN aT aO aH aN aD t (n + 1) k (N1, D1) = chN aT aO aH aN aD t n (k + 1) ((up1 N1 (aO k) (calN (aH k) (N1 (aO k)) (D1 (aO k)) (aN k) (aD k))), (up1 D1 (aO k) (calD (aH k) (N1 (aO k)) (D1 (aO k)) (aN k) (aD k)))) := by rw [chN, if_pos hT, if_neg hL]
        rw [hE]
        unfold longP at hL
        obtain ⟨N2, D2, i1, ht⟩ := ih (k + 1) (up1 N1 (aO k) (calN (aH k) (N1 (aO k)) (D1 (aO k)) (aN k) (aD k))) (up1 D1 (aO k) (calD (aH k) (N1 (aO k)) (D1 (aO k)) (aN k) (aD k))) (by omega) (by omega) (fun q z1 z2 => by
          by_cases hq : q = aO k
          · rw [hq, u1, u2]; omega
          · rw [up1_ne _ _ hq, up1_ne _ _ hq]; exact wN q z1 z2)
        refine ⟨N2, D2, i1, ?_⟩
        refine Rg.step 27 F_Action_changeState_26 rfl (fun _ => rfl) ?_
        refine Rg.step 28 F_Action_changeState_27 rfl (fun _ => rfl) ?_
        refine Rg.getf 31 F_Action_changeState_28 rfl rF_17_33 (gA_0 (ha.st d1 d2 d3)) rfl ?_
        refine Rg.getf 34 F_Action_changeState_31 rfl rF_17_89 (gA_12 (ha.st d1 d2 d3)) rfl ?_
        refine Rg.icgeI 107 37 F_Action_changeState_34 rfl rfl (by omega) (by omega) (fun h34 => by omega) (fun _ => ?_)
        refine Rg.step 38 F_Action_changeState_37 rfl (fun _ => rfl) ?_
        refine Rg.getf 41 F_Action_changeState_38 rfl rF_17_33 (gA_0 (ha.st d1 d2 d3)) rfl ?_
        refine Rg.getf 44 F_Action_changeState_41 rfl rF_17_92 (gA_12 (ha.st d1 d2 d3)) rfl ?_
        refine Rg.step 45 F_Action_changeState_44 rfl (fun _ => rfl) ?_
        refine Rg.ild 46 F_Action_changeState_45 rfl (gA_13 (ha.st d1 d2 d3)) (by omega) (by omega) ?_
        refine Rg.step 47 F_Action_changeState_46 rfl (fun _ => rfl) ?_
        refine Rg.icneI 101 50 F_Action_changeState_47 rfl rfl (by omega) (by omega) (fun h47 => by omega) (fun _ => ?_)
        refine Rg.step 51 F_Action_changeState_50 rfl (fun _ => rfl) ?_
        refine Rg.getf 54 F_Action_changeState_51 rfl rF_17_33 (gA_0 (ha.st d1 d2 d3)) rfl ?_
        refine Rg.getf 57 F_Action_changeState_54 rfl rF_17_98 (gA_12 (ha.st d1 d2 d3)) rfl ?_
        refine Rg.step 58 F_Action_changeState_57 rfl (fun _ => rfl) ?_
        refine Rg.ild 59 F_Action_changeState_58 rfl (gA_14 (ha.st d1 d2 d3)) (by omega) (by omega) ?_
        refine Rg.step 61 F_Action_changeState_59 rfl (fun _ => rfl) ?_
        refine Rg.step 62 F_Action_changeState_61 rfl (fun _ => rfl) ?_
        refine Rg.getf 65 F_Action_changeState_62 rfl rF_17_95 (stS_s hs hf) rfl ?_
        refine Rg.step 67 F_Action_changeState_65 rfl (fun _ => rfl) ?_
        refine Rg.step 68 F_Action_changeState_67 rfl (fun _ => rfl) ?_
        refine Rg.getf 71 F_Action_changeState_68 rfl rF_17_33 (gA_0 (ha.st d1 d2 d3)) rfl ?_
        refine Rg.getf 74 F_Action_changeState_71 rfl rF_17_101 (gA_12 (ha.st d1 d2 d3)) rfl ?_
        refine Rg.step 75 F_Action_changeState_74 rfl (fun _ => rfl) ?_
        refine Rg.ild 76 F_Action_changeState_75 rfl (gA_15 (ha.st d1 d2 d3)) (by omega) (by omega) ?_
        refine Rg.step 77 F_Action_changeState_76 rfl (fun _ => rfl) ?_
        refine Rg.getf 80 F_Action_changeState_77 rfl rF_17_33 (gA_0 (ha.st d1 d2 d3)) rfl ?_
        refine Rg.getf 83 F_Action_changeState_80 rfl rF_17_104 (gA_12 (ha.st d1 d2 d3)) rfl ?_
        refine Rg.step 84 F_Action_changeState_83 rfl (fun _ => rfl) ?_
        refine Rg.call 87 F_Action_changeState_84 rfl (one_V rM_17_114 (by decide) (by simp) rfl rfl (FI.o (stS_f hs hf)) rfl) (Nat.le_of_ble_eq_true rfl) hal ?_
        refine Rg.step 88 F_Action_changeState_87 rfl (fun _ => rfl) ?_
        refine Rg.getf 91 F_Action_changeState_88 rfl rF_17_95 (stS_s hs hf) rfl ?_
        refine Rg.step 93 F_Action_changeState_91 rfl (fun _ => rfl) ?_
        refine Rg.call 96 F_Action_changeState_93 rfl (one_V rM_17_118 (by decide) (by simp) rfl rfl (FI.o (stS_f hs hf)) rfl) (Nat.le_of_ble_eq_true rfl) (Cg.any (c_Fr_isTooLong (stS_f hs hf) k2 (by decide) (by omega) (by omega))) ?_
        rw [u1, u2]
        refine Rg.ifeqP 101 99 F_Action_changeState_96 rfl rfl (fun _ => ?_) (fun h96 => absurd h96 (by unfold longP; exact hL))
        refine Rg.inc 104 F_Action_changeState_101 rfl rfl (by decide) ?_
        refine Rg.step 26 F_Action_changeState_104 rfl (fun _ => rfl) ?_
        exact Rg.weak ht (by simp [lput1, lput2, Value.category, fi0, fi1, fi2, fi3] <;> first | rfl | exact ⟨rfl, rfl⟩) (by simp [lput1, lput2, Value.category, fi0, fi1, fi2, fi3] <;> first | rfl | exact ⟨rfl, rfl⟩)
    · have hE : chN aT aO aH aN aD t (n + 1) k (N1, D1) = chN aT aO aH aN aD t n (k + 1) (N1, D1) := by rw [chN, if_neg hT]
      rw [hE]
      obtain ⟨N2, D2, i1, ht⟩ := ih (k + 1) N1 D1 (by omega) (by omega) wN
      refine ⟨N2, D2, i1, ?_⟩
      refine Rg.step 27 F_Action_changeState_26 rfl (fun _ => rfl) ?_
      refine Rg.step 28 F_Action_changeState_27 rfl (fun _ => rfl) ?_
      refine Rg.getf 31 F_Action_changeState_28 rfl rF_17_33 (gA_0 (ha.st d1 d2 d3)) rfl ?_
      refine Rg.getf 34 F_Action_changeState_31 rfl rF_17_89 (gA_12 (ha.st d1 d2 d3)) rfl ?_
      refine Rg.icgeI 107 37 F_Action_changeState_34 rfl rfl (by omega) (by omega) (fun h34 => by omega) (fun _ => ?_)
      refine Rg.step 38 F_Action_changeState_37 rfl (fun _ => rfl) ?_
      refine Rg.getf 41 F_Action_changeState_38 rfl rF_17_33 (gA_0 (ha.st d1 d2 d3)) rfl ?_
      refine Rg.getf 44 F_Action_changeState_41 rfl rF_17_92 (gA_12 (ha.st d1 d2 d3)) rfl ?_
      refine Rg.step 45 F_Action_changeState_44 rfl (fun _ => rfl) ?_
      refine Rg.ild 46 F_Action_changeState_45 rfl (gA_13 (ha.st d1 d2 d3)) (by omega) (by omega) ?_
      refine Rg.step 47 F_Action_changeState_46 rfl (fun _ => rfl) ?_
      refine Rg.icneI 101 50 F_Action_changeState_47 rfl rfl (by omega) (by omega) (fun _ => ?_) (fun h47 => by omega)
      refine Rg.inc 104 F_Action_changeState_101 rfl rfl (by decide) ?_
      refine Rg.step 26 F_Action_changeState_104 rfl (fun _ => rfl) ?_
      exact Rg.weak ht (by simp [lput1, lput2, Value.category, fi0, fi1, fi2, fi3] <;> first | rfl | exact ⟨rfl, rfl⟩) (by simp [lput1, lput2, Value.category, fi0, fi1, fi2, fi3] <;> first | rfl | exact ⟨rfl, rfl⟩)
theorem c_Action_changeState {d : Nat} (h2 : 2 ≤ b) (ha : (ActC mem b nd ch me nT nF cs cT cO cH cN cD mT mF as aT aO aH aN aD cG sA dO dN dD)) (hs : mem[sx]? = some (.inr (6, [.int (mk F), .ref fx]))) (hf : FI mem fx u v 8 N D) (d1 : sx < b) (d2 : u < b) (d3 : v < b) (g1 : 2 ≤ sx) (wC : 0 ≤ as ∧ as ≤ 6) (wK : ∀ i, 0 ≤ i → i < as → (0 ≤ aT i ∧ aT i ≤ 2) ∧ (0 ≤ aO i ∧ aO i < 8) ∧ (0 ≤ aH i ∧ aH i ≤ 3) ∧ (-100000 ≤ aN i ∧ aN i ≤ 100000) ∧ 0 < aD i ∧ aD i ≤ 1000) {t : Int} (ht : 0 ≤ t ∧ t ≤ 2) (wN : (∀ n, 0 ≤ n → n < 8 → (-1000000000 ≤ N n ∧ N n ≤ 1000000000) ∧ 0 < D n ∧ D n ≤ 1000000000)) : ∃ N2 D2, ((∃ S, chN aT aO aH aN aD t as.toNat 0 (N, D) = some S) → chN aT aO aH aN aD t as.toNat 0 (N, D) = some (N2, D2) ∧ (∀ n, 0 ≤ n → n < 8 → (-1000000000 ≤ N2 n ∧ N2 n ≤ 1000000000) ∧ 0 < D2 n ∧ D2 n ≤ 1000000000)) ∧ Cg false (d + 2) m_Action_changeState [.ref b, .ref sx, .int (iI t)] mem (.inl (some (.int (bP (∃ S, chN aT aO aH aN aD t as.toNat 0 (N, D) = some S))))) (stS mem sx fx u v (fun i => (F i ∧ ¬ mF t i) ∨ mT t i) N2 D2) := by
  obtain ⟨N2, D2, i1, ht⟩ := chs_loop (d := d) (n0 := mem.length) (F1 := (fun i => (F i ∧ ¬ mF t i) ∨ mT t i)) h2 ha hs hf d1 d2 d3 g1 wC wK ht as.toNat 0 N D (by omega) (by omega) wN
  refine ⟨N2, D2, i1, ?_⟩
  refine Cg.of (Nat.le_of_ble_eq_true rfl) ?_
  change Rg _ _ _ _ 0 [(0, .ref b), (1, .ref sx), (2, .int (iI t))] [] _ _ _
  refine Rg.frM (stS_self hs hf).symm ?_
  refine Rg.step 1 F_Action_changeState_0 rfl (fun _ => rfl) ?_
  refine Rg.step 2 F_Action_changeState_1 rfl (fun _ => rfl) ?_
  refine Rg.getf 5 F_Action_changeState_2 rfl rF_17_111 (stS_s hs hf) rfl ?_
  refine Rg.step 6 F_Action_changeState_5 rfl (fun _ => rfl) ?_
  refine Rg.getf 9 F_Action_changeState_6 rfl rF_17_30 (gA_0 (ha.st d1 d2 d3)) rfl ?_
  refine Rg.step 10 F_Action_changeState_9 rfl (fun _ => rfl) ?_
  refine Rg.kld 11 F_Action_changeState_10 rfl (gA_11 (ha.st d1 d2 d3)) (by omega) (by omega) ?_
  refine Rg.step 12 F_Action_changeState_11 rfl (fun _ => rfl) ?_
  refine Rg.notK 13 F_Action_changeState_12 rfl ?_
  refine Rg.andN 14 F_Action_changeState_13 rfl ?_
  refine Rg.step 15 F_Action_changeState_14 rfl (fun _ => rfl) ?_
  refine Rg.getf 18 F_Action_changeState_15 rfl rF_17_27 (gA_0 (ha.st d1 d2 d3)) rfl ?_
  refine Rg.step 19 F_Action_changeState_18 rfl (fun _ => rfl) ?_
  refine Rg.kld 20 F_Action_changeState_19 rfl (gA_10 (ha.st d1 d2 d3)) (by omega) (by omega) ?_
  refine Rg.orK 21 F_Action_changeState_20 rfl ?_
  refine Rg.put 24 F_Action_changeState_21 rfl rF_17_111 (stS_s hs hf) (by omega) (Nat.le_of_ble_eq_true rfl) (Or.inr (Or.inl rfl)) rfl stS_F ?_
  refine Rg.step 25 F_Action_changeState_24 rfl (fun _ => rfl) ?_
  refine Rg.step 26 F_Action_changeState_25 rfl (fun _ => rfl) ?_
  exact Rg.weak ht (by simp [lput1, lput2, Value.category, fi0, fi1, fi2, fi3] <;> first | rfl | exact ⟨rfl, rfl⟩) (by simp [lput1, lput2, Value.category, fi0, fi1, fi2, fi3] <;> first | rfl | exact ⟨rfl, rfl⟩)
theorem c_Action_wb_no {d : Nat}  (h2 : 2 ≤ b) (ha : (ActC mem b nd ch me nT nF cs cT cO cH cN cD mT mF as aT aO aH aN aD cG sA dO dN dD)) (hs : mem[sx]? = some (.inr (6, [.int (mk F), .ref fx]))) (hf : FI mem fx u v 8 N D) {a2 u2 v2 n2 : Nat} {N2 D2 : Int → Int} (hg : FI mem a2 u2 v2 n2 N2 D2) (hn : n2 ≤ 100) (d2 : u2 < b) (wN : ∀ n, 0 ≤ n → n < 8 → (-1000000000 ≤ N n ∧ N n ≤ 1000000000) ∧ 0 < D n ∧ D n ≤ 1000000000) {w i : Int} (hw : 0 ≤ w ∧ w ≤ 1) (hi : 0 ≤ i ∧ i < n2) (hd : (-2 ≤ dO w ∧ dO w ≤ 7) ∧ (-100000 ≤ dN w ∧ dN w ≤ 100000) ∧ (¬ dO w = -2 → 0 < dD w ∧ dD w ≤ 1000)) (h3 : dO w = -2) : Cg true (d + 1) m_Action_writeBound [.ref b, .int (iI w), .ref sx, .ref a2, .int (iI i)] mem (.inl (some (.int (bP False)))) mem := by
  refine Cg.of (Nat.le_of_ble_eq_true rfl) ?_
  change Rg _ _ _ _ 0 [(0, .ref b), (1, .int (iI w)), (2, .ref sx), (3, .ref a2), (4, .int (iI i))] [] _ _ _
  refine Rg.step 1 F_Action_writeBound_0 rfl (fun _ => rfl) ?_
  refine Rg.getf 4 F_Action_writeBound_1 rfl rF_17_42 (gA_0 ha) rfl ?_
  refine Rg.step 5 F_Action_writeBound_4 rfl (fun _ => rfl) ?_
  refine Rg.ild 6 F_Action_writeBound_5 rfl (gA_21 ha) (by omega) (by omega) ?_
  refine Rg.step 8 F_Action_writeBound_6 rfl (fun _ => rfl) ?_
  refine Rg.step 10 F_Action_writeBound_8 rfl (fun _ => rfl) ?_
  refine Rg.bip 12 F_Action_writeBound_10 rfl rfl ?_
  refine Rg.icneI 17 15 F_Action_writeBound_12 rfl rfl (by omega) (by omega) (fun h12 => by omega) (fun _ => ?_)
  refine Rg.step 16 F_Action_writeBound_15 rfl (fun _ => rfl) ?_
  exact Rg.ret0 F_Action_writeBound_16 rfl (fun z => z) rfl
def wbN (dO dN dD N D : Int → Int) (w : Int) : Int := if dO w = -1 then dN w else nN (dN w * N (dO w)) (dD w * D (dO w))
def wbD (dO dN dD N D : Int → Int) (w : Int) : Int := if dO w = -1 then dD w else nD (dN w * N (dO w)) (dD w * D (dO w))
theorem c_Action_wb_yes {d : Nat} (h2 : 2 ≤ b) (ha : (ActC mem b nd ch me nT nF cs cT cO cH cN cD mT mF as aT aO aH aN aD cG sA dO dN dD)) (hs : mem[sx]? = some (.inr (6, [.int (mk F), .ref fx]))) (hf : FI mem fx u v 8 N D) {a2 u2 v2 n2 : Nat} {N2 D2 : Int → Int} (hg : FI mem a2 u2 v2 n2 N2 D2) (hn : n2 ≤ 100) (d2 : u2 < b) (wN : ∀ n, 0 ≤ n → n < 8 → (-1000000000 ≤ N n ∧ N n ≤ 1000000000) ∧ 0 < D n ∧ D n ≤ 1000000000) {w i : Int} (hw : 0 ≤ w ∧ w ≤ 1) (hi : 0 ≤ i ∧ i < n2) (hd : (-2 ≤ dO w ∧ dO w ≤ 7) ∧ (-100000 ≤ dN w ∧ dN w ≤ 100000) ∧ (¬ dO w = -2 → 0 < dD w ∧ dD w ≤ 1000)) (h3 : ¬ dO w = -2) : Cg false (d + 1) m_Action_writeBound [.ref b, .int (iI w), .ref sx, .ref a2, .int (iI i)] mem (.inl (some (.int (bP True)))) (fsI mem u2 v2 n2 (up1 N2 i (wbN dO dN dD N D w)) (up1 D2 i (wbD dO dN dD N D w))) := by
  obtain ⟨e1, e2, e3⟩ := hd
  have e4 := e3 h3
  by_cases h4 : dO w = -1
  · rw [show wbN dO dN dD N D w = dN w by unfold wbN; rw [if_pos h4], show wbD dO dN dD N D w = dD w by unfold wbD; rw [if_pos h4]]
    refine Cg.of (Nat.le_of_ble_eq_true rfl) ?_
    change Rg _ _ _ _ 0 [(0, .ref b), (1, .int (iI w)), (2, .ref sx), (3, .ref a2), (4, .int (iI i))] [] _ _ _
    refine Rg.step 1 F_Action_writeBound_0 rfl (fun _ => rfl) ?_
    refine Rg.getf 4 F_Action_writeBound_1 rfl rF_17_42 (gA_0 ha) rfl ?_
    refine Rg.step 5 F_Action_writeBound_4 rfl (fun _ => rfl) ?_
    refine Rg.ild 6 F_Action_writeBound_5 rfl (gA_21 ha) (by omega) (by omega) ?_
    refine Rg.step 8 F_Action_writeBound_6 rfl (fun _ => rfl) ?_
    refine Rg.step 10 F_Action_writeBound_8 rfl (fun _ => rfl) ?_
    refine Rg.bip 12 F_Action_writeBound_10 rfl rfl ?_
    refine Rg.icneI 17 15 F_Action_writeBound_12 rfl rfl (by omega) (by omega) (fun _ => ?_) (fun h12 => by omega)
    refine Rg.step 19 F_Action_writeBound_17 rfl (fun _ => rfl) ?_
    refine Rg.step 20 F_Action_writeBound_19 rfl (fun _ => rfl) ?_
    refine Rg.icneI 37 23 F_Action_writeBound_20 rfl rfl (by omega) (by omega) (fun h20 => by omega) (fun _ => ?_)
    refine Rg.step 24 F_Action_writeBound_23 rfl (fun _ => rfl) ?_
    refine Rg.step 26 F_Action_writeBound_24 rfl (fun _ => rfl) ?_
    refine Rg.step 27 F_Action_writeBound_26 rfl (fun _ => rfl) ?_
    refine Rg.getf 30 F_Action_writeBound_27 rfl rF_17_48 (gA_0 ha) rfl ?_
    refine Rg.step 31 F_Action_writeBound_30 rfl (fun _ => rfl) ?_
    refine Rg.call 34 F_Action_writeBound_31 rfl (one_V rM_17_76 (by decide) (by simp) rfl rfl (FI.o hg) rfl) (Nat.le_of_ble_eq_true rfl) (c_FrI_copy _ hg (gFA_d h2 ha) (by omega) hi (by omega)) ?_
    refine Rg.step 83 F_Action_writeBound_34 rfl (fun _ => rfl) ?_
    refine Rg.step 84 F_Action_writeBound_83 rfl (fun _ => rfl) ?_
    exact Rg.ret1 F_Action_writeBound_84 rfl trivial rfl
  · have n1 := wN (dO w) (by omega) (by omega)
    have m1 := mul_bd (a := dN w) (b := N (dO w)) (A := 100000) (B := 1000000000) (by omega) (by omega)
    have m2 := mul_ps (a := dD w) (b := D (dO w)) (A := 1000) (B := 1000000000) (by omega) (by omega)
    rw [show wbN dO dN dD N D w = nN (dN w * N (dO w)) (dD w * D (dO w)) by unfold wbN; rw [if_neg h4], show wbD dO dN dD N D w = nD (dN w * N (dO w)) (dD w * D (dO w)) by unfold wbD; rw [if_neg h4]]
    refine Cg.of (Nat.le_of_ble_eq_true rfl) ?_
    change Rg _ _ _ _ 0 [(0, .ref b), (1, .int (iI w)), (2, .ref sx), (3, .ref a2), (4, .int (iI i))] [] _ _ _
    refine Rg.step 1 F_Action_writeBound_0 rfl (fun _ => rfl) ?_
    refine Rg.getf 4 F_Action_writeBound_1 rfl rF_17_42 (gA_0 ha) rfl ?_
    refine Rg.step 5 F_Action_writeBound_4 rfl (fun _ => rfl) ?_
    refine Rg.ild 6 F_Action_writeBound_5 rfl (gA_21 ha) (by omega) (by omega) ?_
    refine Rg.step 8 F_Action_writeBound_6 rfl (fun _ => rfl) ?_
    refine Rg.step 10 F_Action_writeBound_8 rfl (fun _ => rfl) ?_
    refine Rg.bip 12 F_Action_writeBound_10 rfl rfl ?_
    refine Rg.icneI 17 15 F_Action_writeBound_12 rfl rfl (by omega) (by omega) (fun _ => ?_) (fun h12 => by omega)
    refine Rg.step 19 F_Action_writeBound_17 rfl (fun _ => rfl) ?_
    refine Rg.step 20 F_Action_writeBound_19 rfl (fun _ => rfl) ?_
    refine Rg.icneI 37 23 F_Action_writeBound_20 rfl rfl (by omega) (by omega) (fun _ => ?_) (fun h20 => by omega)
    refine Rg.step 38 F_Action_writeBound_37 rfl (fun _ => rfl) ?_
    refine Rg.step 40 F_Action_writeBound_38 rfl (fun _ => rfl) ?_
    refine Rg.step 41 F_Action_writeBound_40 rfl (fun _ => rfl) ?_
    refine Rg.getf 44 F_Action_writeBound_41 rfl rF_17_48 (gA_0 ha) rfl ?_
    refine Rg.getf 47 F_Action_writeBound_44 rfl rF_17_122 (gA_22 ha) rfl ?_
    refine Rg.step 48 F_Action_writeBound_47 rfl (fun _ => rfl) ?_
    refine Rg.lld 49 F_Action_writeBound_48 rfl (gA_23 ha) (by omega) (by omega) ?_
    refine Rg.step 50 F_Action_writeBound_49 rfl (fun _ => rfl) ?_
    refine Rg.getf 53 F_Action_writeBound_50 rfl rF_17_95 hs rfl ?_
    refine Rg.getf 56 F_Action_writeBound_53 rfl rF_17_122 (FI.o hf) rfl ?_
    refine Rg.step 58 F_Action_writeBound_56 rfl (fun _ => rfl) ?_
    refine Rg.lld 59 F_Action_writeBound_58 rfl (FI.u hf) (by omega) (by omega) ?_
    refine Rg.mulL 60 F_Action_writeBound_59 rfl ?_
    refine Rg.step 61 F_Action_writeBound_60 rfl (fun _ => rfl) ?_
    refine Rg.getf 64 F_Action_writeBound_61 rfl rF_17_48 (gA_0 ha) rfl ?_
    refine Rg.getf 67 F_Action_writeBound_64 rfl rF_17_126 (gA_22 ha) rfl ?_
    refine Rg.step 68 F_Action_writeBound_67 rfl (fun _ => rfl) ?_
    refine Rg.lld 69 F_Action_writeBound_68 rfl (gA_24 ha) (by omega) (by omega) ?_
    refine Rg.step 70 F_Action_writeBound_69 rfl (fun _ => rfl) ?_
    refine Rg.getf 73 F_Action_writeBound_70 rfl rF_17_95 hs rfl ?_
    refine Rg.getf 76 F_Action_writeBound_73 rfl rF_17_126 (FI.o hf) rfl ?_
    refine Rg.step 78 F_Action_writeBound_76 rfl (fun _ => rfl) ?_
    refine Rg.lld 79 F_Action_writeBound_78 rfl (FI.d hf) (by omega) (by omega) ?_
    refine Rg.mulL 80 F_Action_writeBound_79 rfl ?_
    refine Rg.call 83 F_Action_writeBound_80 rfl (one_V rM_17_129 (by decide) (by simp) rfl rfl (FI.o hg) rfl) (Nat.le_of_ble_eq_true rfl) (c_FrI_put _ hg hi (by omega) (by omega)) ?_
    refine Rg.step 84 F_Action_writeBound_83 rfl (fun _ => rfl) ?_
    exact Rg.ret1 F_Action_writeBound_84 rfl trivial rfl
end R64
