/-! Fractions. -/
def LV (U : List Int64) : List Value := U.map Value.long
theorem LV_get {U : List Int64} {i : Nat} {x : Int64} (h : U[i]? = some x) : (LV U)[i]? = some (.long x) := by simp [LV, h]
theorem LV_set (U : List Int64) (i : Nat) (x : Int64) : (LV U).set i (.long x) = LV (U.set i x) := by simp [LV, List.map_set]
theorem LV_len (U : List Int64) : (LV U).length = U.length := by simp [LV]
theorem LV_isL (U : List Int64) : (LV U).all isL = true := by simp [LV, isL]
theorem LV_rep (n : Nat) (x : Int64) : List.replicate n (Value.long x) = LV (List.replicate n x) := by simp [LV]
/-- a row of fractions at a, its arrays at u and v -/
def FR (mem : AM) (a u v : Nat) (U D : List Int64) : Prop := mem[a]? = some (.inr (3, [.ref u, .ref v])) ∧ mem[u]? = some (.inl (.long, LV U)) ∧ mem[v]? = some (.inl (.long, LV D)) ∧ u ≠ v ∧ 2 ≤ u ∧ 2 ≤ v ∧ U.length = D.length ∧ U.length ≤ 100
def fset (mem : AM) (u v : Nat) (U D : List Int64) : AM := (mem.set u (.inl (.long, LV U))).set v (.inl (.long, LV D))
theorem FR.set {mem : AM} {a u v : Nat} {U D U1 D1 : List Int64} (h : FR mem a u v U D) (h1 : U1.length = D1.length) (h2 : U1.length ≤ 100) : FR (fset mem u v U1 D1) a u v U1 D1 := by
  obtain ⟨a1, a2, a3, a4, a5, a6, -, -⟩ := h
  exact ⟨gs_ne (gs_ne a1 (ne_k a1 a2).symm) (ne_k a1 a3).symm, gs_ne (gs_eq a2) (Ne.symm a4), gs_eq (gs_ne a3 a4), a4, a5, a6, h1, h2⟩
theorem fset_ne {mem : AM} {u v b : Nat} {U D : List Int64} {c : AC} (h : mem[b]? = some c) (h1 : u ≠ b) (h2 : v ≠ b) : (fset mem u v U D)[b]? = some c := gs_ne (gs_ne h h1) h2
theorem FR.other {mem : AM} {a u v b u' v' : Nat} {U D U' D' U1 D1 : List Int64} (h : FR mem a u v U D) (hb : FR mem b u' v' U' D') (h1 : u ≠ u') (h2 : u ≠ v') (h3 : v ≠ u') (h4 : v ≠ v') : FR (fset mem u v U1 D1) b u' v' U' D' :=
  ⟨fset_ne hb.1 (ne_k hb.1 h.2.1).symm (ne_k hb.1 h.2.2.1).symm, fset_ne hb.2.1 h1 h3, fset_ne hb.2.2.1 h2 h4, hb.2.2.2⟩
theorem lt31 {i n : Nat} (h : i < n) (hn : n ≤ 100) : i < 2 ^ 31 := by omega
theorem c_Fr_copy (d : Nat) {mem : AM} {a u v b u' v' i j : Nat} {U D U' D' : List Int64} {x y : Int64} (ha : FR mem a u v U D) (hb : FR mem b u' v' U' D') (hv : v' ≠ u) (hi : i < U.length) (hx : U'[j]? = some x) (hy : D'[j]? = some y) : Cg false d m_Fractions_copy [.ref a, .int (nI i), .ref b, .int (nI j)] mem (.inl none) (fset mem u v (U.set i x) (D.set i y)) := by
  have hj : j < 2 ^ 31 := lt31 (List.getElem?_eq_some_iff.mp hx).1 hb.2.2.2.2.2.2.2
  have hi2 : i < 2 ^ 31 := lt31 hi ha.2.2.2.2.2.2.2
  unfold fset
  rw [← LV_set, ← LV_set]
  refine Cg.of (Nat.le_of_ble_eq_true rfl) ?_
  change Rg _ _ _ _ 0 [(0, .ref a), (1, .int (nI i)), (2, .ref b), (3, .int (nI j))] [] _ _ _
  refine Rg.step 1 F_Fractions_copy_0 rfl (fun _ => rfl) ?_
  refine Rg.getf 4 F_Fractions_copy_1 rfl rF_3_9 ha.1 rfl ?_
  refine Rg.step 5 F_Fractions_copy_4 rfl (fun _ => rfl) ?_
  refine Rg.step 6 F_Fractions_copy_5 rfl (fun _ => rfl) ?_
  refine Rg.getf 9 F_Fractions_copy_6 rfl rF_3_9 hb.1 rfl ?_
  refine Rg.step 10 F_Fractions_copy_9 rfl (fun _ => rfl) ?_
  refine Rg.lald 11 F_Fractions_copy_10 rfl hb.2.1 (ix_nI hj) (LV_get hx) ?_
  refine Rg.last 12 F_Fractions_copy_11 rfl ha.2.1 ha.2.2.2.2.1 (ix_nI hi2) (by rw [LV_len]; exact hi) ?_
  refine Rg.step 13 F_Fractions_copy_12 rfl (fun _ => rfl) ?_
  refine Rg.getf 16 F_Fractions_copy_13 rfl rF_3_15 (gs_ne ha.1 (ne_k ha.1 ha.2.1).symm) rfl ?_
  refine Rg.step 17 F_Fractions_copy_16 rfl (fun _ => rfl) ?_
  refine Rg.step 18 F_Fractions_copy_17 rfl (fun _ => rfl) ?_
  refine Rg.getf 21 F_Fractions_copy_18 rfl rF_3_15 (gs_ne hb.1 (ne_k hb.1 ha.2.1).symm) rfl ?_
  refine Rg.step 22 F_Fractions_copy_21 rfl (fun _ => rfl) ?_
  refine Rg.lald 23 F_Fractions_copy_22 rfl (gs_ne hb.2.2.1 (Ne.symm hv)) (ix_nI hj) (LV_get hy) ?_
  refine Rg.last 24 F_Fractions_copy_23 rfl (gs_ne ha.2.2.1 ha.2.2.2.1) ha.2.2.2.2.2.1 (ix_nI hi2) (by rw [LV_len, ← ha.2.2.2.2.2.2.1]; exact hi) ?_
  exact Rg.ret F_Fractions_copy_24 rfl
theorem c_Fr_copyAll (d : Nat) {mem : AM} {a u v b u' v' : Nat} {U D U' D' : List Int64} (ha : FR mem a u v U D) (hb : FR mem b u' v' U' D') (hv : v' ≠ u) (hl : U.length = U'.length) : Cg false d m_Fractions_copyAll [.ref a, .ref b] mem (.inl none) (fset mem u v U' D') := by
  have e1 : (LV U).length.toInt32 = nI (LV U').length := by rw [LV_len, LV_len, hl]; rfl
  have e2 : (LV D).length.toInt32 = nI (LV D').length := by rw [LV_len, LV_len, ← hb.2.2.2.2.2.2.1, ← hl, ha.2.2.2.2.2.2.1]; rfl
  have h1 : (LV U').length < 2 ^ 31 := by rw [LV_len]; have := hb.2.2.2.2.2.2.2; omega
  have h2 : (LV D').length < 2 ^ 31 := by rw [LV_len, ← hb.2.2.2.2.2.2.1]; have := hb.2.2.2.2.2.2.2; omega
  unfold fset
  refine Cg.of (Nat.le_of_ble_eq_true rfl) ?_
  change Rg _ _ _ _ 0 [(0, .ref a), (1, .ref b)] [] _ _ _
  refine Rg.step 1 F_Fractions_copyAll_0 rfl (fun _ => rfl) ?_
  refine Rg.getf 4 F_Fractions_copyAll_1 rfl rF_3_9 hb.1 rfl ?_
  refine Rg.step 5 F_Fractions_copyAll_4 rfl (fun _ => rfl) ?_
  refine Rg.step 6 F_Fractions_copyAll_5 rfl (fun _ => rfl) ?_
  refine Rg.getf 9 F_Fractions_copyAll_6 rfl rF_3_9 ha.1 rfl ?_
  refine Rg.step 10 F_Fractions_copyAll_9 rfl (fun _ => rfl) ?_
  refine Rg.step 11 F_Fractions_copyAll_10 rfl (fun _ => rfl) ?_
  refine Rg.getf 14 F_Fractions_copyAll_11 rfl rF_3_9 ha.1 rfl ?_
  refine Rg.alen 15 F_Fractions_copyAll_14 rfl ha.2.1 ?_
  rw [e1]
  refine Rg.copy 18 F_Fractions_copyAll_15 rfl rY_3_24 hb.2.1 ha.2.1 ha.2.2.2.2.1 (ix_nI h1) (by rw [LV_len, LV_len, hl]) (LV_isL _) (by decide) ?_
  refine Rg.step 19 F_Fractions_copyAll_18 rfl (fun _ => rfl) ?_
  refine Rg.getf 22 F_Fractions_copyAll_19 rfl rF_3_15 (gs_ne hb.1 (ne_k hb.1 ha.2.1).symm) rfl ?_
  refine Rg.step 23 F_Fractions_copyAll_22 rfl (fun _ => rfl) ?_
  refine Rg.step 24 F_Fractions_copyAll_23 rfl (fun _ => rfl) ?_
  refine Rg.getf 27 F_Fractions_copyAll_24 rfl rF_3_15 (gs_ne ha.1 (ne_k ha.1 ha.2.1).symm) rfl ?_
  refine Rg.step 28 F_Fractions_copyAll_27 rfl (fun _ => rfl) ?_
  refine Rg.step 29 F_Fractions_copyAll_28 rfl (fun _ => rfl) ?_
  refine Rg.getf 32 F_Fractions_copyAll_29 rfl rF_3_15 (gs_ne ha.1 (ne_k ha.1 ha.2.1).symm) rfl ?_
  refine Rg.alen 33 F_Fractions_copyAll_32 rfl (gs_ne ha.2.2.1 ha.2.2.2.1) ?_
  rw [e2]
  refine Rg.copy 36 F_Fractions_copyAll_33 rfl rY_3_24 (gs_ne hb.2.2.1 (Ne.symm hv)) (gs_ne ha.2.2.1 ha.2.2.2.1) ha.2.2.2.2.2.1 (ix_nI h2) (by rw [LV_len, LV_len, ← hb.2.2.2.2.2.2.1, ← hl, ha.2.2.2.2.2.2.1]) (LV_isL _) (by decide) ?_
  exact Rg.ret F_Fractions_copyAll_36 rfl
