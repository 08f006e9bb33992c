/-! Actions of the class: what they ask of a state, and whether they interfere. -/
noncomputable def actL (b : Nat) (nd : Int) (ch : Int) (me : Int → Prop) (nT : Int → Int → Prop) (nF : Int → Int → Prop) (cs : Int) (cT : Int → Int) (cO : Int → Int) (cH : Int → Int) (cN : Int → Int) (cD : Int → Int) (mT : Int → Int → Prop) (mF : Int → Int → Prop) (as : Int) (aT : Int → Int) (aO : Int → Int) (aH : Int → Int) (aN : Int → Int) (aD : Int → Int) (cG : Int → Int → Prop) (sA : Int → Int → Prop) (dO : Int → Int) (dN : Int → Int) (dD : Int → Int) : List AC := [.inr (1, [.int (iI nd), .int (iI ch), .ref (b + 1), .ref (b + 2), .ref (b + 3), .ref (b + 10), .ref (b + 11), .ref (b + 12), .ref (b + 19), .ref (b + 20), .int (mk me), .ref (b + 21), .ref (b + 22)]), .inl (.int, aK 3 nT), .inl (.int, aK 3 nF), .inr (8, [.int (iI cs), .ref (b + 4), .ref (b + 5), .ref (b + 6), .ref (b + 7)]), .inl (.int, aI 8 cT), .inl (.int, aI 8 cO), .inl (.int, aI 8 cH), .inr (3, [.ref (b + 8), .ref (b + 9)]), .inl (.long, aL 8 cN), .inl (.long, aL 8 cD), .inl (.int, aK 3 mT), .inl (.int, aK 3 mF), .inr (8, [.int (iI as), .ref (b + 13), .ref (b + 14), .ref (b + 15), .ref (b + 16)]), .inl (.int, aI 6 aT), .inl (.int, aI 6 aO), .inl (.int, aI 6 aH), .inr (3, [.ref (b + 17), .ref (b + 18)]), .inl (.long, aL 6 aN), .inl (.long, aL 6 aD), .inl (.int, aK 3 cG), .inl (.int, aK 3 sA), .inl (.int, aI 2 dO), .inr (3, [.ref (b + 23), .ref (b + 24)]), .inl (.long, aL 2 dN), .inl (.long, aL 2 dD)]
def ActC (mem : AM) (b : Nat) (nd : Int) (ch : Int) (me : Int → Prop) (nT : Int → Int → Prop) (nF : Int → Int → Prop) (cs : Int) (cT : Int → Int) (cO : Int → Int) (cH : Int → Int) (cN : Int → Int) (cD : Int → Int) (mT : Int → Int → Prop) (mF : Int → Int → Prop) (as : Int) (aT : Int → Int) (aO : Int → Int) (aH : Int → Int) (aN : Int → Int) (aD : Int → Int) (cG : Int → Int → Prop) (sA : Int → Int → Prop) (dO : Int → Int) (dN : Int → Int) (dD : Int → Int) : Prop := ∀ i, i < 25 → mem[b + i]? = (actL b nd ch me nT nF cs cT cO cH cN cD mT mF as aT aO aH aN aD cG sA dO dN dD)[i]?
section R63
variable {mem : AM} {b b2 : Nat} {nd ch cs as : Int} {cT cO cH cN cD aT aO aH aN aD dO dN dD : Int → Int} {nT nF mT mF cG sA : Int → Int → Prop} {me : Int → Prop} {nd2 ch2 cs2 as2 : Int} {cT2 cO2 cH2 cN2 cD2 aT2 aO2 aH2 aN2 aD2 dO2 dN2 dD2 : Int → Int} {nT2 nF2 mT2 mF2 cG2 sA2 : Int → Int → Prop} {me2 : Int → Prop}
theorem gA_0 (ha : (ActC mem b nd ch me nT nF cs cT cO cH cN cD mT mF as aT aO aH aN aD cG sA dO dN dD)) : mem[b]? = some (.inr (1, [.int (iI nd), .int (iI ch), .ref (b + 1), .ref (b + 2), .ref (b + 3), .ref (b + 10), .ref (b + 11), .ref (b + 12), .ref (b + 19), .ref (b + 20), .int (mk me), .ref (b + 21), .ref (b + 22)])) := ha 0 (by decide)
theorem gA_1 (ha : (ActC mem b nd ch me nT nF cs cT cO cH cN cD mT mF as aT aO aH aN aD cG sA dO dN dD)) : mem[(b + 1)]? = some (.inl (.int, aK 3 nT)) := ha 1 (by decide)
theorem gA_2 (ha : (ActC mem b nd ch me nT nF cs cT cO cH cN cD mT mF as aT aO aH aN aD cG sA dO dN dD)) : mem[(b + 2)]? = some (.inl (.int, aK 3 nF)) := ha 2 (by decide)
theorem gA_3 (ha : (ActC mem b nd ch me nT nF cs cT cO cH cN cD mT mF as aT aO aH aN aD cG sA dO dN dD)) : mem[(b + 3)]? = some (.inr (8, [.int (iI cs), .ref (b + 4), .ref (b + 5), .ref (b + 6), .ref (b + 7)])) := ha 3 (by decide)
theorem gA_4 (ha : (ActC mem b nd ch me nT nF cs cT cO cH cN cD mT mF as aT aO aH aN aD cG sA dO dN dD)) : mem[(b + 4)]? = some (.inl (.int, aI 8 cT)) := ha 4 (by decide)
theorem gA_5 (ha : (ActC mem b nd ch me nT nF cs cT cO cH cN cD mT mF as aT aO aH aN aD cG sA dO dN dD)) : mem[(b + 5)]? = some (.inl (.int, aI 8 cO)) := ha 5 (by decide)
theorem gA_6 (ha : (ActC mem b nd ch me nT nF cs cT cO cH cN cD mT mF as aT aO aH aN aD cG sA dO dN dD)) : mem[(b + 6)]? = some (.inl (.int, aI 8 cH)) := ha 6 (by decide)
theorem gA_7 (ha : (ActC mem b nd ch me nT nF cs cT cO cH cN cD mT mF as aT aO aH aN aD cG sA dO dN dD)) : mem[(b + 7)]? = some (.inr (3, [.ref (b + 8), .ref (b + 9)])) := ha 7 (by decide)
theorem gA_8 (ha : (ActC mem b nd ch me nT nF cs cT cO cH cN cD mT mF as aT aO aH aN aD cG sA dO dN dD)) : mem[(b + 8)]? = some (.inl (.long, aL 8 cN)) := ha 8 (by decide)
theorem gA_9 (ha : (ActC mem b nd ch me nT nF cs cT cO cH cN cD mT mF as aT aO aH aN aD cG sA dO dN dD)) : mem[(b + 9)]? = some (.inl (.long, aL 8 cD)) := ha 9 (by decide)
theorem gA_10 (ha : (ActC mem b nd ch me nT nF cs cT cO cH cN cD mT mF as aT aO aH aN aD cG sA dO dN dD)) : mem[(b + 10)]? = some (.inl (.int, aK 3 mT)) := ha 10 (by decide)
theorem gA_11 (ha : (ActC mem b nd ch me nT nF cs cT cO cH cN cD mT mF as aT aO aH aN aD cG sA dO dN dD)) : mem[(b + 11)]? = some (.inl (.int, aK 3 mF)) := ha 11 (by decide)
theorem gA_12 (ha : (ActC mem b nd ch me nT nF cs cT cO cH cN cD mT mF as aT aO aH aN aD cG sA dO dN dD)) : mem[(b + 12)]? = some (.inr (8, [.int (iI as), .ref (b + 13), .ref (b + 14), .ref (b + 15), .ref (b + 16)])) := ha 12 (by decide)
theorem gA_13 (ha : (ActC mem b nd ch me nT nF cs cT cO cH cN cD mT mF as aT aO aH aN aD cG sA dO dN dD)) : mem[(b + 13)]? = some (.inl (.int, aI 6 aT)) := ha 13 (by decide)
theorem gA_14 (ha : (ActC mem b nd ch me nT nF cs cT cO cH cN cD mT mF as aT aO aH aN aD cG sA dO dN dD)) : mem[(b + 14)]? = some (.inl (.int, aI 6 aO)) := ha 14 (by decide)
theorem gA_15 (ha : (ActC mem b nd ch me nT nF cs cT cO cH cN cD mT mF as aT aO aH aN aD cG sA dO dN dD)) : mem[(b + 15)]? = some (.inl (.int, aI 6 aH)) := ha 15 (by decide)
theorem gA_16 (ha : (ActC mem b nd ch me nT nF cs cT cO cH cN cD mT mF as aT aO aH aN aD cG sA dO dN dD)) : mem[(b + 16)]? = some (.inr (3, [.ref (b + 17), .ref (b + 18)])) := ha 16 (by decide)
theorem gA_17 (ha : (ActC mem b nd ch me nT nF cs cT cO cH cN cD mT mF as aT aO aH aN aD cG sA dO dN dD)) : mem[(b + 17)]? = some (.inl (.long, aL 6 aN)) := ha 17 (by decide)
theorem gA_18 (ha : (ActC mem b nd ch me nT nF cs cT cO cH cN cD mT mF as aT aO aH aN aD cG sA dO dN dD)) : mem[(b + 18)]? = some (.inl (.long, aL 6 aD)) := ha 18 (by decide)
theorem gA_19 (ha : (ActC mem b nd ch me nT nF cs cT cO cH cN cD mT mF as aT aO aH aN aD cG sA dO dN dD)) : mem[(b + 19)]? = some (.inl (.int, aK 3 cG)) := ha 19 (by decide)
theorem gA_20 (ha : (ActC mem b nd ch me nT nF cs cT cO cH cN cD mT mF as aT aO aH aN aD cG sA dO dN dD)) : mem[(b + 20)]? = some (.inl (.int, aK 3 sA)) := ha 20 (by decide)
theorem gA_21 (ha : (ActC mem b nd ch me nT nF cs cT cO cH cN cD mT mF as aT aO aH aN aD cG sA dO dN dD)) : mem[(b + 21)]? = some (.inl (.int, aI 2 dO)) := ha 21 (by decide)
theorem gA_22 (ha : (ActC mem b nd ch me nT nF cs cT cO cH cN cD mT mF as aT aO aH aN aD cG sA dO dN dD)) : mem[(b + 22)]? = some (.inr (3, [.ref (b + 23), .ref (b + 24)])) := ha 22 (by decide)
theorem gA_23 (ha : (ActC mem b nd ch me nT nF cs cT cO cH cN cD mT mF as aT aO aH aN aD cG sA dO dN dD)) : mem[(b + 23)]? = some (.inl (.long, aL 2 dN)) := ha 23 (by decide)
theorem gA_24 (ha : (ActC mem b nd ch me nT nF cs cT cO cH cN cD mT mF as aT aO aH aN aD cG sA dO dN dD)) : mem[(b + 24)]? = some (.inl (.long, aL 2 dD)) := ha 24 (by decide)
theorem FI.o {a u v n : Nat} {N D : Int → Int} (h : FI mem a u v n N D) : mem[a]? = some (.inr (3, [.ref u, .ref v])) := h.1
theorem FI.u {a u v n : Nat} {N D : Int → Int} (h : FI mem a u v n N D) : mem[u]? = some (.inl (.long, aL n N)) := by rw [← LV_lst]; exact h.2.1
theorem FI.d {a u v n : Nat} {N D : Int → Int} (h : FI mem a u v n N D) : mem[v]? = some (.inl (.long, aL n D)) := by rw [← LV_lst]; exact h.2.2.1
theorem gFA_c (h2 : 2 ≤ b) (ha : (ActC mem b nd ch me nT nF cs cT cO cH cN cD mT mF as aT aO aH aN aD cG sA dO dN dD)) : FI mem (b + 7) (b + 8) (b + 9) 8 cN cD := FI.of (gA_7 ha) (gA_8 ha) (gA_9 ha) (by omega) (by omega) (by omega) (by decide)
theorem gFA_a (h2 : 2 ≤ b) (ha : (ActC mem b nd ch me nT nF cs cT cO cH cN cD mT mF as aT aO aH aN aD cG sA dO dN dD)) : FI mem (b + 16) (b + 17) (b + 18) 6 aN aD := FI.of (gA_16 ha) (gA_17 ha) (gA_18 ha) (by omega) (by omega) (by omega) (by decide)
theorem gFA_d (h2 : 2 ≤ b) (ha : (ActC mem b nd ch me nT nF cs cT cO cH cN cD mT mF as aT aO aH aN aD cG sA dO dN dD)) : FI mem (b + 22) (b + 23) (b + 24) 2 dN dD := FI.of (gA_22 ha) (gA_23 ha) (gA_24 ha) (by omega) (by omega) (by omega) (by decide)
variable {sx fx u v : Nat} {F : Int → Prop} {N D : Int → Int}
theorem c_State_hasFacts {d : Nat}  (hs : mem[sx]? = some (.inr (6, [.int (mk F), .ref fx]))) {A B : Int → Prop} : Cg true d m_State_hasFacts [.ref sx, .int (mk A), .int (mk B)] mem (.inl (some (.int (bP ((∀ i, 0 ≤ i → i < 24 → A i → F i) ∧ (∀ i, 0 ≤ i → i < 24 → ¬ (F i ∧ B i))))))) mem := by
  refine Cg.of (Nat.le_of_ble_eq_true rfl) ?_
  change Rg _ _ _ _ 0 [(0, .ref sx), (1, .int (mk A)), (2, .int (mk B))] [] _ _ _
  refine Rg.step 1 F_State_hasFacts_0 rfl (fun _ => rfl) ?_
  refine Rg.getf 4 F_State_hasFacts_1 rfl rF_9_20 hs rfl ?_
  refine Rg.step 5 F_State_hasFacts_4 rfl (fun _ => rfl) ?_
  refine Rg.andK 6 F_State_hasFacts_5 rfl ?_
  refine Rg.step 7 F_State_hasFacts_6 rfl (fun _ => rfl) ?_
  refine Rg.icneK 23 10 F_State_hasFacts_7 rfl rfl (fun h7 => ?_) (fun h7 => ?_)
  · refine Rg.step 24 F_State_hasFacts_23 rfl (fun _ => rfl) ?_
    exact Rg.ret0 F_State_hasFacts_24 rfl (fun z => h7 (fun i z1 z2 => ⟨fun y => y.2, fun y => ⟨z.1 i z1 z2 y, y⟩⟩)) rfl
  · refine Rg.step 11 F_State_hasFacts_10 rfl (fun _ => rfl) ?_
    refine Rg.getf 14 F_State_hasFacts_11 rfl rF_9_20 hs rfl ?_
    refine Rg.step 15 F_State_hasFacts_14 rfl (fun _ => rfl) ?_
    refine Rg.andK 16 F_State_hasFacts_15 rfl ?_
    refine Rg.ifneK 23 19 F_State_hasFacts_16 rfl rfl (fun h16 => ?_) (fun h16 => ?_)
    · refine Rg.step 24 F_State_hasFacts_23 rfl (fun _ => rfl) ?_
      exact Rg.ret0 F_State_hasFacts_24 rfl (fun z => h16.elim (fun i y => z.2 i y.1 y.2.1 y.2.2)) rfl
    · refine Rg.step 20 F_State_hasFacts_19 rfl (fun _ => rfl) ?_
      refine Rg.step 24 F_State_hasFacts_20 rfl (fun _ => rfl) ?_
      exact Rg.ret1 F_State_hasFacts_24 rfl ⟨fun i z1 z2 z3 => ((h7 i z1 z2).mpr z3).1, h16⟩ rfl
theorem c_Fr_isSo {d : Nat} {a u v a2 u2 v2 n n2 : Nat} {N2 D2 : Int → Int} {i j how : Int} (hf : FI mem a u v n N D) (hg : FI mem a2 u2 v2 n2 N2 D2) (hi : 0 ≤ i ∧ i < n) (hj : 0 ≤ j ∧ j < n2) (hn : n ≤ 100 ∧ n2 ≤ 100) (h1 : (-4611686018427387904 < N i ∧ N i < 4611686018427387904)) (h2 : (0 < D i ∧ D i < 4611686018427387904)) (h3 : (-4611686018427387904 < N2 j ∧ N2 j < 4611686018427387904)) (h4 : (0 < D2 j ∧ D2 j < 4611686018427387904)) (hh : 0 ≤ how ∧ how ≤ 4) : Cg true (d + 2) m_Fractions_isSo [.ref a, .int (iI i), .int (iI how), .ref a2, .int (iI j)] mem (.inl (some (.int (bP (cmps how (cmpF (N i) (D i) (N2 j) (D2 j))))))) mem := by
  have c0 := cmpF_b (N i) (D i) (N2 j) (D2 j)
  have hc : how = 0 ∨ how = 1 ∨ how = 2 ∨ how = 3 ∨ how = 4 := by omega
  rcases hc with rfl | rfl | rfl | rfl | rfl
  · refine Cg.of (Nat.le_of_ble_eq_true rfl) ?_
    change Rg _ _ _ _ 0 [(0, .ref a), (1, .int (iI i)), (2, .int (iI 0)), (3, .ref a2), (4, .int (iI j))] [] _ _ _
    refine Rg.step 1 F_Fractions_isSo_0 rfl (fun _ => rfl) ?_
    refine Rg.step 2 F_Fractions_isSo_1 rfl (fun _ => rfl) ?_
    refine Rg.step 3 F_Fractions_isSo_2 rfl (fun _ => rfl) ?_
    refine Rg.step 5 F_Fractions_isSo_3 rfl (fun _ => rfl) ?_
    refine Rg.call 8 F_Fractions_isSo_5 rfl (one_V rM_3_42 (by decide) (by simp) rfl rfl (FI.o hf) rfl) (Nat.le_of_ble_eq_true rfl) (c_FrI_order d hf hg hi hj h1 h2 h3 h4) ?_
    refine Rg.step 10 F_Fractions_isSo_8 rfl (fun _ => rfl) ?_
    refine Rg.step 11 F_Fractions_isSo_10 rfl (fun _ => rfl) ?_
    refine Rg.step 40 F_Fractions_isSo_11 rfl (fun _ => rfl) ?_
    refine Rg.step 42 F_Fractions_isSo_40 rfl (fun _ => rfl) ?_
    refine Rg.ifgeI 49 45 F_Fractions_isSo_42 rfl rfl (by omega) (fun h42 => ?_) (fun h42 => ?_)
    · refine Rg.step 50 F_Fractions_isSo_49 rfl (fun _ => rfl) ?_
      exact Rg.ret0 F_Fractions_isSo_50 rfl (by unfold cmps; omega) rfl
    · refine Rg.step 46 F_Fractions_isSo_45 rfl (fun _ => rfl) ?_
      refine Rg.step 50 F_Fractions_isSo_46 rfl (fun _ => rfl) ?_
      exact Rg.ret1 F_Fractions_isSo_50 rfl (by unfold cmps; omega) rfl
  · refine Cg.of (Nat.le_of_ble_eq_true rfl) ?_
    change Rg _ _ _ _ 0 [(0, .ref a), (1, .int (iI i)), (2, .int (iI 1)), (3, .ref a2), (4, .int (iI j))] [] _ _ _
    refine Rg.step 1 F_Fractions_isSo_0 rfl (fun _ => rfl) ?_
    refine Rg.step 2 F_Fractions_isSo_1 rfl (fun _ => rfl) ?_
    refine Rg.step 3 F_Fractions_isSo_2 rfl (fun _ => rfl) ?_
    refine Rg.step 5 F_Fractions_isSo_3 rfl (fun _ => rfl) ?_
    refine Rg.call 8 F_Fractions_isSo_5 rfl (one_V rM_3_42 (by decide) (by simp) rfl rfl (FI.o hf) rfl) (Nat.le_of_ble_eq_true rfl) (c_FrI_order d hf hg hi hj h1 h2 h3 h4) ?_
    refine Rg.step 10 F_Fractions_isSo_8 rfl (fun _ => rfl) ?_
    refine Rg.step 11 F_Fractions_isSo_10 rfl (fun _ => rfl) ?_
    refine Rg.step 51 F_Fractions_isSo_11 rfl (fun _ => rfl) ?_
    refine Rg.step 53 F_Fractions_isSo_51 rfl (fun _ => rfl) ?_
    refine Rg.ifgtI 60 56 F_Fractions_isSo_53 rfl rfl (by omega) (fun h53 => ?_) (fun h53 => ?_)
    · refine Rg.step 61 F_Fractions_isSo_60 rfl (fun _ => rfl) ?_
      exact Rg.ret0 F_Fractions_isSo_61 rfl (by unfold cmps; omega) rfl
    · refine Rg.step 57 F_Fractions_isSo_56 rfl (fun _ => rfl) ?_
      refine Rg.step 61 F_Fractions_isSo_57 rfl (fun _ => rfl) ?_
      exact Rg.ret1 F_Fractions_isSo_61 rfl (by unfold cmps; omega) rfl
  · refine Cg.of (Nat.le_of_ble_eq_true rfl) ?_
    change Rg _ _ _ _ 0 [(0, .ref a), (1, .int (iI i)), (2, .int (iI 2)), (3, .ref a2), (4, .int (iI j))] [] _ _ _
    refine Rg.step 1 F_Fractions_isSo_0 rfl (fun _ => rfl) ?_
    refine Rg.step 2 F_Fractions_isSo_1 rfl (fun _ => rfl) ?_
    refine Rg.step 3 F_Fractions_isSo_2 rfl (fun _ => rfl) ?_
    refine Rg.step 5 F_Fractions_isSo_3 rfl (fun _ => rfl) ?_
    refine Rg.call 8 F_Fractions_isSo_5 rfl (one_V rM_3_42 (by decide) (by simp) rfl rfl (FI.o hf) rfl) (Nat.le_of_ble_eq_true rfl) (c_FrI_order d hf hg hi hj h1 h2 h3 h4) ?_
    refine Rg.step 10 F_Fractions_isSo_8 rfl (fun _ => rfl) ?_
    refine Rg.step 11 F_Fractions_isSo_10 rfl (fun _ => rfl) ?_
    refine Rg.step 62 F_Fractions_isSo_11 rfl (fun _ => rfl) ?_
    refine Rg.step 64 F_Fractions_isSo_62 rfl (fun _ => rfl) ?_
    refine Rg.ifneI 71 67 F_Fractions_isSo_64 rfl rfl (by omega) (fun h64 => ?_) (fun h64 => ?_)
    · refine Rg.step 72 F_Fractions_isSo_71 rfl (fun _ => rfl) ?_
      exact Rg.ret0 F_Fractions_isSo_72 rfl (by unfold cmps; omega) rfl
    · refine Rg.step 68 F_Fractions_isSo_67 rfl (fun _ => rfl) ?_
      refine Rg.step 72 F_Fractions_isSo_68 rfl (fun _ => rfl) ?_
      exact Rg.ret1 F_Fractions_isSo_72 rfl (by unfold cmps; omega) rfl
  · refine Cg.of (Nat.le_of_ble_eq_true rfl) ?_
    change Rg _ _ _ _ 0 [(0, .ref a), (1, .int (iI i)), (2, .int (iI 3)), (3, .ref a2), (4, .int (iI j))] [] _ _ _
    refine Rg.step 1 F_Fractions_isSo_0 rfl (fun _ => rfl) ?_
    refine Rg.step 2 F_Fractions_isSo_1 rfl (fun _ => rfl) ?_
    refine Rg.step 3 F_Fractions_isSo_2 rfl (fun _ => rfl) ?_
    refine Rg.step 5 F_Fractions_isSo_3 rfl (fun _ => rfl) ?_
    refine Rg.call 8 F_Fractions_isSo_5 rfl (one_V rM_3_42 (by decide) (by simp) rfl rfl (FI.o hf) rfl) (Nat.le_of_ble_eq_true rfl) (c_FrI_order d hf hg hi hj h1 h2 h3 h4) ?_
    refine Rg.step 10 F_Fractions_isSo_8 rfl (fun _ => rfl) ?_
    refine Rg.step 11 F_Fractions_isSo_10 rfl (fun _ => rfl) ?_
    refine Rg.step 73 F_Fractions_isSo_11 rfl (fun _ => rfl) ?_
    refine Rg.step 75 F_Fractions_isSo_73 rfl (fun _ => rfl) ?_
    refine Rg.ifltI 82 78 F_Fractions_isSo_75 rfl rfl (by omega) (fun h75 => ?_) (fun h75 => ?_)
    · refine Rg.step 83 F_Fractions_isSo_82 rfl (fun _ => rfl) ?_
      exact Rg.ret0 F_Fractions_isSo_83 rfl (by unfold cmps; omega) rfl
    · refine Rg.step 79 F_Fractions_isSo_78 rfl (fun _ => rfl) ?_
      refine Rg.step 83 F_Fractions_isSo_79 rfl (fun _ => rfl) ?_
      exact Rg.ret1 F_Fractions_isSo_83 rfl (by unfold cmps; omega) rfl
  · refine Cg.of (Nat.le_of_ble_eq_true rfl) ?_
    change Rg _ _ _ _ 0 [(0, .ref a), (1, .int (iI i)), (2, .int (iI 4)), (3, .ref a2), (4, .int (iI j))] [] _ _ _
    refine Rg.step 1 F_Fractions_isSo_0 rfl (fun _ => rfl) ?_
    refine Rg.step 2 F_Fractions_isSo_1 rfl (fun _ => rfl) ?_
    refine Rg.step 3 F_Fractions_isSo_2 rfl (fun _ => rfl) ?_
    refine Rg.step 5 F_Fractions_isSo_3 rfl (fun _ => rfl) ?_
    refine Rg.call 8 F_Fractions_isSo_5 rfl (one_V rM_3_42 (by decide) (by simp) rfl rfl (FI.o hf) rfl) (Nat.le_of_ble_eq_true rfl) (c_FrI_order d hf hg hi hj h1 h2 h3 h4) ?_
    refine Rg.step 10 F_Fractions_isSo_8 rfl (fun _ => rfl) ?_
    refine Rg.step 11 F_Fractions_isSo_10 rfl (fun _ => rfl) ?_
    refine Rg.step 84 F_Fractions_isSo_11 rfl (fun _ => rfl) ?_
    refine Rg.step 86 F_Fractions_isSo_84 rfl (fun _ => rfl) ?_
    refine Rg.ifleI 93 89 F_Fractions_isSo_86 rfl rfl (by omega) (fun h86 => ?_) (fun h86 => ?_)
    · refine Rg.step 94 F_Fractions_isSo_93 rfl (fun _ => rfl) ?_
      exact Rg.ret0 F_Fractions_isSo_94 rfl (by unfold cmps; omega) rfl
    · refine Rg.step 90 F_Fractions_isSo_89 rfl (fun _ => rfl) ?_
      refine Rg.step 94 F_Fractions_isSo_90 rfl (fun _ => rfl) ?_
      exact Rg.ret1 F_Fractions_isSo_94 rfl (by unfold cmps; omega) rfl
theorem met_loop {d n0 : Nat} (h2 : 2 ≤ b) (ha : (ActC mem b nd ch me nT nF cs cT cO cH cN cD mT mF as aT aO aH aN aD cG sA dO dN dD)) (hs : mem[sx]? = some (.inr (6, [.int (mk F), .ref fx]))) (hf : FI mem fx u v 8 N D) (wN : ∀ n, 0 ≤ n → n < 8 → (-1000000000 ≤ N n ∧ N n ≤ 1000000000) ∧ 0 < D n ∧ D n ≤ 1000000000) (wC : 0 ≤ cs ∧ cs ≤ 8) (wK : ∀ i, 0 ≤ i → i < cs → (0 ≤ cT i ∧ cT i ≤ 2) ∧ (0 ≤ cO i ∧ cO i < 8) ∧ (0 ≤ cH i ∧ cH i ≤ 4) ∧ (-100000 ≤ cN i ∧ cN i ≤ 100000) ∧ 0 < cD i ∧ cD i ≤ 1000) {t : Int} (ht : 0 ≤ t ∧ t ≤ 2) {B : Prop} : ∀ (n : Nat) (k : Int), k + n = cs → 0 ≤ k → ((∀ i, 0 ≤ i → i < k → (cT i = t → cmps (cH i) (cmpF (N (cO i)) (D (cO i)) (cN i) (cD i)))) → (B ↔ ∀ i, 0 ≤ i → i < cs → (cT i = t → cmps (cH i) (cmpF (N (cO i)) (D (cO i)) (cN i) (cD i))))) → (∀ i, 0 ≤ i → i < k → (cT i = t → cmps (cH i) (cmpF (N (cO i)) (D (cO i)) (cN i) (cD i)))) → Rg true (d + 3) m_Action_isMet n0 23 [(3, .int (iI k)), (0, .ref b), (1, .ref sx), (2, .int (iI t))] [] mem (.inl (some (.int (bP B)))) mem := by
  intro n
  induction n with
  | zero =>
    intro k hk hk2 hB hp
    refine Rg.step 24 F_Action_isMet_23 rfl (fun _ => rfl) ?_
    refine Rg.step 25 F_Action_isMet_24 rfl (fun _ => rfl) ?_
    refine Rg.getf 28 F_Action_isMet_25 rfl rF_17_23 (gA_0 ha) rfl ?_
    refine Rg.getf 31 F_Action_isMet_28 rfl rF_17_89 (gA_3 ha) rfl ?_
    refine Rg.icgeI 91 34 F_Action_isMet_31 rfl rfl (by omega) (by omega) (fun _ => ?_) (fun h31 => by omega)
    refine Rg.step 92 F_Action_isMet_91 rfl (fun _ => rfl) ?_
    exact Rg.ret1 F_Action_isMet_92 rfl ((hB hp).mpr (fun i z1 z2 => hp i z1 (by omega))) rfl
  | succ n ih =>
    intro k hk hk2 hB hp
    obtain ⟨k1, k2, k3, k4, k5, k6⟩ := wK k hk2 (by omega)
    have n1 := wN (cO k) k2.1 k2.2
    have hB1 : B ↔ ∀ i, 0 ≤ i → i < cs → (cT i = t → cmps (cH i) (cmpF (N (cO i)) (D (cO i)) (cN i) (cD i))) := hB hp
    have nx : (cT k = t → cmps (cH k) (cmpF (N (cO k)) (D (cO k)) (cN k) (cD k))) → ∀ i, 0 ≤ i → i < k + 1 → (cT i = t → cmps (cH i) (cmpF (N (cO i)) (D (cO i)) (cN i) (cD i))) := fun z i z1 z2 => by
      by_cases hi : i = k
      · rw [hi]; exact z
      · exact hp i z1 (by omega)
    refine Rg.step 24 F_Action_isMet_23 rfl (fun _ => rfl) ?_
    refine Rg.step 25 F_Action_isMet_24 rfl (fun _ => rfl) ?_
    refine Rg.getf 28 F_Action_isMet_25 rfl rF_17_23 (gA_0 ha) rfl ?_
    refine Rg.getf 31 F_Action_isMet_28 rfl rF_17_89 (gA_3 ha) rfl ?_
    refine Rg.icgeI 91 34 F_Action_isMet_31 rfl rfl (by omega) (by omega) (fun h31 => by omega) (fun _ => ?_)
    refine Rg.step 35 F_Action_isMet_34 rfl (fun _ => rfl) ?_
    refine Rg.getf 38 F_Action_isMet_35 rfl rF_17_23 (gA_0 ha) rfl ?_
    refine Rg.getf 41 F_Action_isMet_38 rfl rF_17_92 (gA_3 ha) rfl ?_
    refine Rg.step 42 F_Action_isMet_41 rfl (fun _ => rfl) ?_
    refine Rg.ild 43 F_Action_isMet_42 rfl (gA_4 ha) (by omega) (by decide) ?_
    refine Rg.step 44 F_Action_isMet_43 rfl (fun _ => rfl) ?_
    refine Rg.icneI 85 47 F_Action_isMet_44 rfl rfl (by omega) (by omega) (fun h44 => ?_) (fun h44 => ?_)
    · refine Rg.inc 88 F_Action_isMet_85 rfl rfl (by decide) ?_
      refine Rg.step 23 F_Action_isMet_88 rfl (fun _ => rfl) ?_
      exact Rg.weak (ih (k + 1) (by omega) (by omega) (fun _ => hB1) (nx (fun z => absurd z h44))) (by simp [lput1, lput2, Value.category, fi0, fi1, fi2, fi3] <;> first | rfl | exact ⟨rfl, rfl⟩) (by simp [lput1, lput2, Value.category, fi0, fi1, fi2, fi3] <;> first | rfl | exact ⟨rfl, rfl⟩)
    · refine Rg.step 48 F_Action_isMet_47 rfl (fun _ => rfl) ?_
      refine Rg.getf 51 F_Action_isMet_48 rfl rF_17_95 hs rfl ?_
      refine Rg.step 52 F_Action_isMet_51 rfl (fun _ => rfl) ?_
      refine Rg.getf 55 F_Action_isMet_52 rfl rF_17_23 (gA_0 ha) rfl ?_
      refine Rg.getf 58 F_Action_isMet_55 rfl rF_17_98 (gA_3 ha) rfl ?_
      refine Rg.step 59 F_Action_isMet_58 rfl (fun _ => rfl) ?_
      refine Rg.ild 60 F_Action_isMet_59 rfl (gA_5 ha) (by omega) (by decide) ?_
      refine Rg.step 61 F_Action_isMet_60 rfl (fun _ => rfl) ?_
      refine Rg.getf 64 F_Action_isMet_61 rfl rF_17_23 (gA_0 ha) rfl ?_
      refine Rg.getf 67 F_Action_isMet_64 rfl rF_17_101 (gA_3 ha) rfl ?_
      refine Rg.step 68 F_Action_isMet_67 rfl (fun _ => rfl) ?_
      refine Rg.ild 69 F_Action_isMet_68 rfl (gA_6 ha) (by omega) (by decide) ?_
      refine Rg.step 70 F_Action_isMet_69 rfl (fun _ => rfl) ?_
      refine Rg.getf 73 F_Action_isMet_70 rfl rF_17_23 (gA_0 ha) rfl ?_
      refine Rg.getf 76 F_Action_isMet_73 rfl rF_17_104 (gA_3 ha) rfl ?_
      refine Rg.step 77 F_Action_isMet_76 rfl (fun _ => rfl) ?_
      refine Rg.call 80 F_Action_isMet_77 rfl (one_V rM_17_107 (by decide) (by simp) rfl rfl (FI.o hf) rfl) (Nat.le_of_ble_eq_true rfl) (c_Fr_isSo hf (gFA_c h2 ha) k2 (by omega) (by decide) (by omega) (by omega) (by omega) (by omega) k3) ?_
      refine Rg.ifneP 85 83 F_Action_isMet_80 rfl rfl (fun h80 => ?_) (fun h80 => ?_)
      · refine Rg.inc 88 F_Action_isMet_85 rfl rfl (by decide) ?_
        refine Rg.step 23 F_Action_isMet_88 rfl (fun _ => rfl) ?_
        exact Rg.weak (ih (k + 1) (by omega) (by omega) (fun _ => hB1) (nx (fun _ => h80))) (by simp [lput1, lput2, Value.category, fi0, fi1, fi2, fi3] <;> first | rfl | exact ⟨rfl, rfl⟩) (by simp [lput1, lput2, Value.category, fi0, fi1, fi2, fi3] <;> first | rfl | exact ⟨rfl, rfl⟩)
      · refine Rg.step 84 F_Action_isMet_83 rfl (fun _ => rfl) ?_
        exact Rg.ret0 F_Action_isMet_84 rfl (fun z => h80 (hB1.mp z k hk2 (by omega) h44)) rfl
theorem c_Action_isMet {d : Nat}  (h2 : 2 ≤ b) (ha : (ActC mem b nd ch me nT nF cs cT cO cH cN cD mT mF as aT aO aH aN aD cG sA dO dN dD)) (hs : mem[sx]? = some (.inr (6, [.int (mk F), .ref fx]))) (hf : FI mem fx u v 8 N D) (wN : ∀ n, 0 ≤ n → n < 8 → (-1000000000 ≤ N n ∧ N n ≤ 1000000000) ∧ 0 < D n ∧ D n ≤ 1000000000) (wC : 0 ≤ cs ∧ cs ≤ 8) (wK : ∀ i, 0 ≤ i → i < cs → (0 ≤ cT i ∧ cT i ≤ 2) ∧ (0 ≤ cO i ∧ cO i < 8) ∧ (0 ≤ cH i ∧ cH i ≤ 4) ∧ (-100000 ≤ cN i ∧ cN i ≤ 100000) ∧ 0 < cD i ∧ cD i ≤ 1000) {t : Int} (ht : 0 ≤ t ∧ t ≤ 2) : Cg true (d + 3) m_Action_isMet [.ref b, .ref sx, .int (iI t)] mem (.inl (some (.int (bP (((∀ i, 0 ≤ i → i < 24 → nT t i → F i) ∧ (∀ i, 0 ≤ i → i < 24 → ¬ (F i ∧ nF t i))) ∧ ∀ i, 0 ≤ i → i < cs → (cT i = t → cmps (cH i) (cmpF (N (cO i)) (D (cO i)) (cN i) (cD i)))))))) mem := by
  refine Cg.of (Nat.le_of_ble_eq_true rfl) ?_
  change Rg _ _ _ _ 0 [(0, .ref b), (1, .ref sx), (2, .int (iI t))] [] _ _ _
  refine Rg.step 1 F_Action_isMet_0 rfl (fun _ => rfl) ?_
  refine Rg.step 2 F_Action_isMet_1 rfl (fun _ => rfl) ?_
  refine Rg.getf 5 F_Action_isMet_2 rfl rF_17_9 (gA_0 ha) rfl ?_
  refine Rg.step 6 F_Action_isMet_5 rfl (fun _ => rfl) ?_
  refine Rg.kld 7 F_Action_isMet_6 rfl (gA_1 ha) (by omega) (by decide) ?_
  refine Rg.step 8 F_Action_isMet_7 rfl (fun _ => rfl) ?_
  refine Rg.getf 11 F_Action_isMet_8 rfl rF_17_15 (gA_0 ha) rfl ?_
  refine Rg.step 12 F_Action_isMet_11 rfl (fun _ => rfl) ?_
  refine Rg.kld 13 F_Action_isMet_12 rfl (gA_2 ha) (by omega) (by decide) ?_
  refine Rg.call 16 F_Action_isMet_13 rfl (one_V rM_17_83 (by decide) (by simp) rfl rfl hs rfl) (Nat.le_of_ble_eq_true rfl) (c_State_hasFacts hs) ?_
  refine Rg.ifneP 21 19 F_Action_isMet_16 rfl rfl (fun h16 => ?_) (fun h16 => ?_)
  · refine Rg.step 22 F_Action_isMet_21 rfl (fun _ => rfl) ?_
    refine Rg.step 23 F_Action_isMet_22 rfl (fun _ => rfl) ?_
    exact Rg.weak (met_loop h2 ha hs hf wN wC wK ht cs.toNat 0 (by omega) (by omega) (fun _ => ⟨fun z => z.2, fun z => ⟨h16, z⟩⟩) (fun i z1 z2 => by omega)) (by simp [lput1, lput2, Value.category, fi0, fi1, fi2, fi3] <;> first | rfl | exact ⟨rfl, rfl⟩) (by simp [lput1, lput2, Value.category, fi0, fi1, fi2, fi3] <;> first | rfl | exact ⟨rfl, rfl⟩)
  · refine Rg.step 20 F_Action_isMet_19 rfl (fun _ => rfl) ?_
    exact Rg.ret0 F_Action_isMet_20 rfl (fun z => h16 z.1) rfl
theorem c_Action_interferes {d : Nat}  (ha : (ActC mem b nd ch me nT nF cs cT cO cH cN cD mT mF as aT aO aH aN aD cG sA dO dN dD)) (hb : (ActC mem b2 nd2 ch2 me2 nT2 nF2 cs2 cT2 cO2 cH2 cN2 cD2 mT2 mF2 as2 aT2 aO2 aH2 aN2 aD2 cG2 sA2 dO2 dN2 dD2)) {t t2 : Int} (ht : 0 ≤ t ∧ t ≤ 2) (ht2 : 0 ≤ t2 ∧ t2 ≤ 2) : Cg true d m_Action_interferes [.ref b, .int (iI t), .ref b2, .int (iI t2)] mem (.inl (some (.int (bP (∃ i, 0 ≤ i ∧ i < 24 ∧ ((((cG t i ∧ (sA2 t2 i ∨ (t2 = 0 ∧ me2 i))) ∨ (cG2 t2 i ∧ (sA t i ∨ (t = 0 ∧ me i)))) ∨ (mT t i ∧ mF2 t2 i)) ∨ (mF t i ∧ mT2 t2 i))))))) mem := by
  refine Cg.of (Nat.le_of_ble_eq_true rfl) ?_
  change Rg _ _ _ _ 0 [(0, .ref b), (1, .int (iI t)), (2, .ref b2), (3, .int (iI t2))] [] _ _ _
  refine Rg.step 1 F_Action_interferes_0 rfl (fun _ => rfl) ?_
  refine Rg.getf 4 F_Action_interferes_1 rfl rF_17_39 (gA_0 ha) rfl ?_
  refine Rg.step 5 F_Action_interferes_4 rfl (fun _ => rfl) ?_
  refine Rg.kld 6 F_Action_interferes_5 rfl (gA_20 ha) (by omega) (by decide) ?_
  refine Rg.step 7 F_Action_interferes_6 rfl (fun _ => rfl) ?_
  refine Rg.ifneI 17 10 F_Action_interferes_7 rfl rfl (by omega) (fun h7 => ?_) (fun h7 => ?_)
  · refine Rg.cK0 18 F_Action_interferes_17 rfl ?_
    refine Rg.orK 19 F_Action_interferes_18 rfl ?_
    refine Rg.step 21 F_Action_interferes_19 rfl (fun _ => rfl) ?_
    refine Rg.step 22 F_Action_interferes_21 rfl (fun _ => rfl) ?_
    refine Rg.getf 25 F_Action_interferes_22 rfl rF_17_39 (gA_0 hb) rfl ?_
    refine Rg.step 26 F_Action_interferes_25 rfl (fun _ => rfl) ?_
    refine Rg.kld 27 F_Action_interferes_26 rfl (gA_20 hb) (by omega) (by decide) ?_
    refine Rg.step 28 F_Action_interferes_27 rfl (fun _ => rfl) ?_
    refine Rg.ifneI 38 31 F_Action_interferes_28 rfl rfl (by omega) (fun h28 => ?_) (fun h28 => ?_)
    · refine Rg.cK0 39 F_Action_interferes_38 rfl ?_
      refine Rg.orK 40 F_Action_interferes_39 rfl ?_
      refine Rg.step 42 F_Action_interferes_40 rfl (fun _ => rfl) ?_
      refine Rg.step 43 F_Action_interferes_42 rfl (fun _ => rfl) ?_
      refine Rg.getf 46 F_Action_interferes_43 rfl rF_17_36 (gA_0 ha) rfl ?_
      refine Rg.step 47 F_Action_interferes_46 rfl (fun _ => rfl) ?_
      refine Rg.kld 48 F_Action_interferes_47 rfl (gA_19 ha) (by omega) (by decide) ?_
      refine Rg.step 50 F_Action_interferes_48 rfl (fun _ => rfl) ?_
      refine Rg.andK 51 F_Action_interferes_50 rfl ?_
      refine Rg.step 52 F_Action_interferes_51 rfl (fun _ => rfl) ?_
      refine Rg.getf 55 F_Action_interferes_52 rfl rF_17_36 (gA_0 hb) rfl ?_
      refine Rg.step 56 F_Action_interferes_55 rfl (fun _ => rfl) ?_
      refine Rg.kld 57 F_Action_interferes_56 rfl (gA_19 hb) (by omega) (by decide) ?_
      refine Rg.step 59 F_Action_interferes_57 rfl (fun _ => rfl) ?_
      refine Rg.andK 60 F_Action_interferes_59 rfl ?_
      refine Rg.orK 61 F_Action_interferes_60 rfl ?_
      refine Rg.step 62 F_Action_interferes_61 rfl (fun _ => rfl) ?_
      refine Rg.getf 65 F_Action_interferes_62 rfl rF_17_27 (gA_0 ha) rfl ?_
      refine Rg.step 66 F_Action_interferes_65 rfl (fun _ => rfl) ?_
      refine Rg.kld 67 F_Action_interferes_66 rfl (gA_10 ha) (by omega) (by decide) ?_
      refine Rg.step 68 F_Action_interferes_67 rfl (fun _ => rfl) ?_
      refine Rg.getf 71 F_Action_interferes_68 rfl rF_17_30 (gA_0 hb) rfl ?_
      refine Rg.step 72 F_Action_interferes_71 rfl (fun _ => rfl) ?_
      refine Rg.kld 73 F_Action_interferes_72 rfl (gA_11 hb) (by omega) (by decide) ?_
      refine Rg.andK 74 F_Action_interferes_73 rfl ?_
      refine Rg.orK 75 F_Action_interferes_74 rfl ?_
      refine Rg.step 76 F_Action_interferes_75 rfl (fun _ => rfl) ?_
      refine Rg.getf 79 F_Action_interferes_76 rfl rF_17_30 (gA_0 ha) rfl ?_
      refine Rg.step 80 F_Action_interferes_79 rfl (fun _ => rfl) ?_
      refine Rg.kld 81 F_Action_interferes_80 rfl (gA_11 ha) (by omega) (by decide) ?_
      refine Rg.step 82 F_Action_interferes_81 rfl (fun _ => rfl) ?_
      refine Rg.getf 85 F_Action_interferes_82 rfl rF_17_27 (gA_0 hb) rfl ?_
      refine Rg.step 86 F_Action_interferes_85 rfl (fun _ => rfl) ?_
      refine Rg.kld 87 F_Action_interferes_86 rfl (gA_10 hb) (by omega) (by decide) ?_
      refine Rg.andK 88 F_Action_interferes_87 rfl ?_
      refine Rg.orK 89 F_Action_interferes_88 rfl ?_
      refine Rg.ifeqK 96 92 F_Action_interferes_89 rfl rfl (fun h89 => ?_) (fun h89 => ?_)
      · refine Rg.step 97 F_Action_interferes_96 rfl (fun _ => rfl) ?_
        exact Rg.ret0 F_Action_interferes_97 rfl (fun ⟨i, z1, z2, z3⟩ => h89 i z1 z2 (by simpa [h7, h28] using z3)) rfl
      · refine Rg.step 93 F_Action_interferes_92 rfl (fun _ => rfl) ?_
        refine Rg.step 97 F_Action_interferes_93 rfl (fun _ => rfl) ?_
        exact Rg.ret1 F_Action_interferes_97 rfl (by obtain ⟨i, z1, z2, z3⟩ := h89; exact ⟨i, z1, z2, by simpa [h7, h28] using z3⟩) rfl
    · refine Rg.step 32 F_Action_interferes_31 rfl (fun _ => rfl) ?_
      refine Rg.getf 35 F_Action_interferes_32 rfl rF_17_80 (gA_0 hb) rfl ?_
      refine Rg.step 39 F_Action_interferes_35 rfl (fun _ => rfl) ?_
      refine Rg.orK 40 F_Action_interferes_39 rfl ?_
      refine Rg.step 42 F_Action_interferes_40 rfl (fun _ => rfl) ?_
      refine Rg.step 43 F_Action_interferes_42 rfl (fun _ => rfl) ?_
      refine Rg.getf 46 F_Action_interferes_43 rfl rF_17_36 (gA_0 ha) rfl ?_
      refine Rg.step 47 F_Action_interferes_46 rfl (fun _ => rfl) ?_
      refine Rg.kld 48 F_Action_interferes_47 rfl (gA_19 ha) (by omega) (by decide) ?_
      refine Rg.step 50 F_Action_interferes_48 rfl (fun _ => rfl) ?_
      refine Rg.andK 51 F_Action_interferes_50 rfl ?_
      refine Rg.step 52 F_Action_interferes_51 rfl (fun _ => rfl) ?_
      refine Rg.getf 55 F_Action_interferes_52 rfl rF_17_36 (gA_0 hb) rfl ?_
      refine Rg.step 56 F_Action_interferes_55 rfl (fun _ => rfl) ?_
      refine Rg.kld 57 F_Action_interferes_56 rfl (gA_19 hb) (by omega) (by decide) ?_
      refine Rg.step 59 F_Action_interferes_57 rfl (fun _ => rfl) ?_
      refine Rg.andK 60 F_Action_interferes_59 rfl ?_
      refine Rg.orK 61 F_Action_interferes_60 rfl ?_
      refine Rg.step 62 F_Action_interferes_61 rfl (fun _ => rfl) ?_
      refine Rg.getf 65 F_Action_interferes_62 rfl rF_17_27 (gA_0 ha) rfl ?_
      refine Rg.step 66 F_Action_interferes_65 rfl (fun _ => rfl) ?_
      refine Rg.kld 67 F_Action_interferes_66 rfl (gA_10 ha) (by omega) (by decide) ?_
      refine Rg.step 68 F_Action_interferes_67 rfl (fun _ => rfl) ?_
      refine Rg.getf 71 F_Action_interferes_68 rfl rF_17_30 (gA_0 hb) rfl ?_
      refine Rg.step 72 F_Action_interferes_71 rfl (fun _ => rfl) ?_
      refine Rg.kld 73 F_Action_interferes_72 rfl (gA_11 hb) (by omega) (by decide) ?_
      refine Rg.andK 74 F_Action_interferes_73 rfl ?_
      refine Rg.orK 75 F_Action_interferes_74 rfl ?_
      refine Rg.step 76 F_Action_interferes_75 rfl (fun _ => rfl) ?_
      refine Rg.getf 79 F_Action_interferes_76 rfl rF_17_30 (gA_0 ha) rfl ?_
      refine Rg.step 80 F_Action_interferes_79 rfl (fun _ => rfl) ?_
      refine Rg.kld 81 F_Action_interferes_80 rfl (gA_11 ha) (by omega) (by decide) ?_
      refine Rg.step 82 F_Action_interferes_81 rfl (fun _ => rfl) ?_
      refine Rg.getf 85 F_Action_interferes_82 rfl rF_17_27 (gA_0 hb) rfl ?_
      refine Rg.step 86 F_Action_interferes_85 rfl (fun _ => rfl) ?_
      refine Rg.kld 87 F_Action_interferes_86 rfl (gA_10 hb) (by omega) (by decide) ?_
      refine Rg.andK 88 F_Action_interferes_87 rfl ?_
      refine Rg.orK 89 F_Action_interferes_88 rfl ?_
      refine Rg.ifeqK 96 92 F_Action_interferes_89 rfl rfl (fun h89 => ?_) (fun h89 => ?_)
      · refine Rg.step 97 F_Action_interferes_96 rfl (fun _ => rfl) ?_
        exact Rg.ret0 F_Action_interferes_97 rfl (fun ⟨i, z1, z2, z3⟩ => h89 i z1 z2 (by simpa [h7, h28] using z3)) rfl
      · refine Rg.step 93 F_Action_interferes_92 rfl (fun _ => rfl) ?_
        refine Rg.step 97 F_Action_interferes_93 rfl (fun _ => rfl) ?_
        exact Rg.ret1 F_Action_interferes_97 rfl (by obtain ⟨i, z1, z2, z3⟩ := h89; exact ⟨i, z1, z2, by simpa [h7, h28] using z3⟩) rfl
  · refine Rg.step 11 F_Action_interferes_10 rfl (fun _ => rfl) ?_
    refine Rg.getf 14 F_Action_interferes_11 rfl rF_17_80 (gA_0 ha) rfl ?_
    refine Rg.step 18 F_Action_interferes_14 rfl (fun _ => rfl) ?_
    refine Rg.orK 19 F_Action_interferes_18 rfl ?_
    refine Rg.step 21 F_Action_interferes_19 rfl (fun _ => rfl) ?_
    refine Rg.step 22 F_Action_interferes_21 rfl (fun _ => rfl) ?_
    refine Rg.getf 25 F_Action_interferes_22 rfl rF_17_39 (gA_0 hb) rfl ?_
    refine Rg.step 26 F_Action_interferes_25 rfl (fun _ => rfl) ?_
    refine Rg.kld 27 F_Action_interferes_26 rfl (gA_20 hb) (by omega) (by decide) ?_
    refine Rg.step 28 F_Action_interferes_27 rfl (fun _ => rfl) ?_
    refine Rg.ifneI 38 31 F_Action_interferes_28 rfl rfl (by omega) (fun h28 => ?_) (fun h28 => ?_)
    · refine Rg.cK0 39 F_Action_interferes_38 rfl ?_
      refine Rg.orK 40 F_Action_interferes_39 rfl ?_
      refine Rg.step 42 F_Action_interferes_40 rfl (fun _ => rfl) ?_
      refine Rg.step 43 F_Action_interferes_42 rfl (fun _ => rfl) ?_
      refine Rg.getf 46 F_Action_interferes_43 rfl rF_17_36 (gA_0 ha) rfl ?_
      refine Rg.step 47 F_Action_interferes_46 rfl (fun _ => rfl) ?_
      refine Rg.kld 48 F_Action_interferes_47 rfl (gA_19 ha) (by omega) (by decide) ?_
      refine Rg.step 50 F_Action_interferes_48 rfl (fun _ => rfl) ?_
      refine Rg.andK 51 F_Action_interferes_50 rfl ?_
      refine Rg.step 52 F_Action_interferes_51 rfl (fun _ => rfl) ?_
      refine Rg.getf 55 F_Action_interferes_52 rfl rF_17_36 (gA_0 hb) rfl ?_
      refine Rg.step 56 F_Action_interferes_55 rfl (fun _ => rfl) ?_
      refine Rg.kld 57 F_Action_interferes_56 rfl (gA_19 hb) (by omega) (by decide) ?_
      refine Rg.step 59 F_Action_interferes_57 rfl (fun _ => rfl) ?_
      refine Rg.andK 60 F_Action_interferes_59 rfl ?_
      refine Rg.orK 61 F_Action_interferes_60 rfl ?_
      refine Rg.step 62 F_Action_interferes_61 rfl (fun _ => rfl) ?_
      refine Rg.getf 65 F_Action_interferes_62 rfl rF_17_27 (gA_0 ha) rfl ?_
      refine Rg.step 66 F_Action_interferes_65 rfl (fun _ => rfl) ?_
      refine Rg.kld 67 F_Action_interferes_66 rfl (gA_10 ha) (by omega) (by decide) ?_
      refine Rg.step 68 F_Action_interferes_67 rfl (fun _ => rfl) ?_
      refine Rg.getf 71 F_Action_interferes_68 rfl rF_17_30 (gA_0 hb) rfl ?_
      refine Rg.step 72 F_Action_interferes_71 rfl (fun _ => rfl) ?_
      refine Rg.kld 73 F_Action_interferes_72 rfl (gA_11 hb) (by omega) (by decide) ?_
      refine Rg.andK 74 F_Action_interferes_73 rfl ?_
      refine Rg.orK 75 F_Action_interferes_74 rfl ?_
      refine Rg.step 76 F_Action_interferes_75 rfl (fun _ => rfl) ?_
      refine Rg.getf 79 F_Action_interferes_76 rfl rF_17_30 (gA_0 ha) rfl ?_
      refine Rg.step 80 F_Action_interferes_79 rfl (fun _ => rfl) ?_
      refine Rg.kld 81 F_Action_interferes_80 rfl (gA_11 ha) (by omega) (by decide) ?_
      refine Rg.step 82 F_Action_interferes_81 rfl (fun _ => rfl) ?_
      refine Rg.getf 85 F_Action_interferes_82 rfl rF_17_27 (gA_0 hb) rfl ?_
      refine Rg.step 86 F_Action_interferes_85 rfl (fun _ => rfl) ?_
      refine Rg.kld 87 F_Action_interferes_86 rfl (gA_10 hb) (by omega) (by decide) ?_
      refine Rg.andK 88 F_Action_interferes_87 rfl ?_
      refine Rg.orK 89 F_Action_interferes_88 rfl ?_
      refine Rg.ifeqK 96 92 F_Action_interferes_89 rfl rfl (fun h89 => ?_) (fun h89 => ?_)
      · refine Rg.step 97 F_Action_interferes_96 rfl (fun _ => rfl) ?_
        exact Rg.ret0 F_Action_interferes_97 rfl (fun ⟨i, z1, z2, z3⟩ => h89 i z1 z2 (by simpa [h7, h28] using z3)) rfl
      · refine Rg.step 93 F_Action_interferes_92 rfl (fun _ => rfl) ?_
        refine Rg.step 97 F_Action_interferes_93 rfl (fun _ => rfl) ?_
        exact Rg.ret1 F_Action_interferes_97 rfl (by obtain ⟨i, z1, z2, z3⟩ := h89; exact ⟨i, z1, z2, by simpa [h7, h28] using z3⟩) rfl
    · refine Rg.step 32 F_Action_interferes_31 rfl (fun _ => rfl) ?_
      refine Rg.getf 35 F_Action_interferes_32 rfl rF_17_80 (gA_0 hb) rfl ?_
      refine Rg.step 39 F_Action_interferes_35 rfl (fun _ => rfl) ?_
      refine Rg.orK 40 F_Action_interferes_39 rfl ?_
      refine Rg.step 42 F_Action_interferes_40 rfl (fun _ => rfl) ?_
      refine Rg.step 43 F_Action_interferes_42 rfl (fun _ => rfl) ?_
      refine Rg.getf 46 F_Action_interferes_43 rfl rF_17_36 (gA_0 ha) rfl ?_
      refine Rg.step 47 F_Action_interferes_46 rfl (fun _ => rfl) ?_
      refine Rg.kld 48 F_Action_interferes_47 rfl (gA_19 ha) (by omega) (by decide) ?_
      refine Rg.step 50 F_Action_interferes_48 rfl (fun _ => rfl) ?_
      refine Rg.andK 51 F_Action_interferes_50 rfl ?_
      refine Rg.step 52 F_Action_interferes_51 rfl (fun _ => rfl) ?_
      refine Rg.getf 55 F_Action_interferes_52 rfl rF_17_36 (gA_0 hb) rfl ?_
      refine Rg.step 56 F_Action_interferes_55 rfl (fun _ => rfl) ?_
      refine Rg.kld 57 F_Action_interferes_56 rfl (gA_19 hb) (by omega) (by decide) ?_
      refine Rg.step 59 F_Action_interferes_57 rfl (fun _ => rfl) ?_
      refine Rg.andK 60 F_Action_interferes_59 rfl ?_
      refine Rg.orK 61 F_Action_interferes_60 rfl ?_
      refine Rg.step 62 F_Action_interferes_61 rfl (fun _ => rfl) ?_
      refine Rg.getf 65 F_Action_interferes_62 rfl rF_17_27 (gA_0 ha) rfl ?_
      refine Rg.step 66 F_Action_interferes_65 rfl (fun _ => rfl) ?_
      refine Rg.kld 67 F_Action_interferes_66 rfl (gA_10 ha) (by omega) (by decide) ?_
      refine Rg.step 68 F_Action_interferes_67 rfl (fun _ => rfl) ?_
      refine Rg.getf 71 F_Action_interferes_68 rfl rF_17_30 (gA_0 hb) rfl ?_
      refine Rg.step 72 F_Action_interferes_71 rfl (fun _ => rfl) ?_
      refine Rg.kld 73 F_Action_interferes_72 rfl (gA_11 hb) (by omega) (by decide) ?_
      refine Rg.andK 74 F_Action_interferes_73 rfl ?_
      refine Rg.orK 75 F_Action_interferes_74 rfl ?_
      refine Rg.step 76 F_Action_interferes_75 rfl (fun _ => rfl) ?_
      refine Rg.getf 79 F_Action_interferes_76 rfl rF_17_30 (gA_0 ha) rfl ?_
      refine Rg.step 80 F_Action_interferes_79 rfl (fun _ => rfl) ?_
      refine Rg.kld 81 F_Action_interferes_80 rfl (gA_11 ha) (by omega) (by decide) ?_
      refine Rg.step 82 F_Action_interferes_81 rfl (fun _ => rfl) ?_
      refine Rg.getf 85 F_Action_interferes_82 rfl rF_17_27 (gA_0 hb) rfl ?_
      refine Rg.step 86 F_Action_interferes_85 rfl (fun _ => rfl) ?_
      refine Rg.kld 87 F_Action_interferes_86 rfl (gA_10 hb) (by omega) (by decide) ?_
      refine Rg.andK 88 F_Action_interferes_87 rfl ?_
      refine Rg.orK 89 F_Action_interferes_88 rfl ?_
      refine Rg.ifeqK 96 92 F_Action_interferes_89 rfl rfl (fun h89 => ?_) (fun h89 => ?_)
      · refine Rg.step 97 F_Action_interferes_96 rfl (fun _ => rfl) ?_
        exact Rg.ret0 F_Action_interferes_97 rfl (fun ⟨i, z1, z2, z3⟩ => h89 i z1 z2 (by simpa [h7, h28] using z3)) rfl
      · refine Rg.step 93 F_Action_interferes_92 rfl (fun _ => rfl) ?_
        refine Rg.step 97 F_Action_interferes_93 rfl (fun _ => rfl) ?_
        exact Rg.ret1 F_Action_interferes_97 rfl (by obtain ⟨i, z1, z2, z3⟩ := h89; exact ⟨i, z1, z2, by simpa [h7, h28] using z3⟩) rfl
end R63
