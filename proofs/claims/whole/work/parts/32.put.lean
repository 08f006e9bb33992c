/-! Fractions: put (Euclid, at most 200 rounds). -/
def euC : Nat → Int64 → Int64 → Int64
  | 0, dv, _ => dv
  | n + 1, dv, rs => if rs = 0 then dv else euC n rs (dv - dv / rs * rs)
def absL (p : Int64) : Int64 := if p < 0 then -p else p
def gC (p q : Int64) : Int64 := euC 200 q (absL p)
def dvC (g p : Int64) : Int64 := if 1 < g then p / g else p
theorem xI_succ (k : Nat) : nI k + Int32.ofInt 1 = nI (k + 1) := by
  unfold nI
  rw [Int32.ofNat_add]
  rfl
theorem xI_lt {a b : Nat} (ha : a < 2 ^ 31) (hb : b < 2 ^ 31) : nI a < nI b ↔ a < b := by
  unfold nI
  rw [Int32.lt_iff_toInt_lt, Int32.toInt_ofNat_of_lt ha, Int32.toInt_ofNat_of_lt hb]
  omega
theorem xI_le {a b : Nat} (ha : a < 2 ^ 31) (hb : b < 2 ^ 31) : nI a ≤ nI b ↔ a ≤ b := by
  unfold nI
  rw [Int32.le_iff_toInt_le, Int32.toInt_ofNat_of_lt ha, Int32.toInt_ofNat_of_lt hb]
  omega
theorem put_loop {d n0 a : Nat} {mem mem' : AM} {i : Int32} {p q : Int64} {o : Option Value ⊕ Nat} : ∀ (n k : Nat) (dv rs : Int64), k + n = 200 → Rg false d m_Fractions_put n0 57 [(6, .long (euC n dv rs)), (0, .ref a), (1, .int i), (2, .long p), (4, .long q)] [] mem o mem' →
    Rg false d m_Fractions_put n0 21 [(10, .int (nI k)), (8, .long rs), (6, .long dv), (0, .ref a), (1, .int i), (2, .long p), (4, .long q)] [] mem o mem' := by
  intro n
  induction n with
  | zero =>
    intro k dv rs hk kk
    have hk : k = 200 := by omega
    subst hk
    refine Rg.step 23 F_Fractions_put_21 rfl (fun _ => rfl) ?_
    refine Rg.step 26 F_Fractions_put_23 rfl (fun _ => rfl) ?_
    refine Rg.icge 57 29 F_Fractions_put_26 rfl rfl (fun _ => ?_) (fun h => absurd (show nI 200 ≤ nI 200 from Int32.le_refl _) h)
    exact Rg.weak kk (by simp [euC]) (by simp)
  | succ n ih =>
    intro k dv rs hk kk
    have hlt : nI k < nI 200 := (xI_lt (by omega) (by omega)).mpr (by omega)
    refine Rg.step 23 F_Fractions_put_21 rfl (fun _ => rfl) ?_
    refine Rg.step 26 F_Fractions_put_23 rfl (fun _ => rfl) ?_
    refine Rg.icge 57 29 F_Fractions_put_26 rfl rfl (fun h => absurd h (Int32.not_le.mpr hlt)) (fun _ => ?_)
    refine Rg.step 31 F_Fractions_put_29 rfl (fun _ => rfl) ?_
    refine Rg.step 32 F_Fractions_put_31 rfl (fun _ => rfl) ?_
    refine Rg.step 33 F_Fractions_put_32 rfl (fun _ => rfl) ?_
    refine Rg.ifeq 57 36 F_Fractions_put_33 rfl rfl (fun h => ?_) (fun h => ?_)
    · have hz : rs = 0 := (lg_cmp_eq _ _).mp h
      subst hz
      have e1 : euC (n + 1) dv 0 = dv := by simp [euC]
      rw [e1] at kk
      exact Rg.weak kk (by simp) (by simp)
    · refine Rg.step 38 F_Fractions_put_36 rfl (fun _ => rfl) ?_
      refine Rg.step 40 F_Fractions_put_38 rfl (fun _ => rfl) ?_
      refine Rg.remL 41 F_Fractions_put_40 rfl (fun z => h ((lg_cmp_eq _ _).mpr z)) ?_
      refine Rg.step 43 F_Fractions_put_41 rfl (fun _ => rfl) ?_
      refine Rg.step 45 F_Fractions_put_43 rfl (fun _ => rfl) ?_
      refine Rg.step 47 F_Fractions_put_45 rfl (fun _ => rfl) ?_
      refine Rg.step 49 F_Fractions_put_47 rfl (fun _ => rfl) ?_
      refine Rg.step 51 F_Fractions_put_49 rfl (fun _ => rfl) ?_
      refine Rg.step 54 F_Fractions_put_51 rfl (fun _ => rfl) ?_
      rw [xI_succ]
      refine Rg.step 21 F_Fractions_put_54 rfl (fun _ => rfl) ?_
      have hz : ¬ rs = 0 := fun z => h ((lg_cmp_eq _ _).mpr z)
      have e1 : euC (n + 1) dv rs = euC n rs (dv - dv / rs * rs) := by simp [euC, hz]
      rw [e1] at kk
      exact Rg.weak (ih (k + 1) rs (dv - dv / rs * rs) (by omega) kk) (by simp [lput1, lput2, Value.category]) (by simp [lput1, lput2, Value.category])
theorem put_tail {d n0 a u v i : Nat} {mem : AM} {U D : List Int64} {g p q : Int64} (ha : FR mem a u v U D) (hi : i < U.length) : Rg false d m_Fractions_put n0 57 [(6, .long g), (0, .ref a), (1, .int (nI i)), (2, .long p), (4, .long q)] [] mem (.inl none) (fset mem u v (U.set i (dvC g p)) (D.set i (dvC g q))) := by
  have hi2 : i < 2 ^ 31 := lt31 hi ha.2.2.2.2.2.2.2
  unfold fset
  rw [← LV_set, ← LV_set]
  by_cases hg : 1 < g
  · have hne : ¬ g = 0 := fun z => by rw [z] at hg; exact absurd hg (by decide)
    have hn : ¬ lg_cmp g (Int64.ofNat 1) ≤ 0 := fun z => absurd ((lg_cmp_le _ _).mp z) (Int64.not_le.mpr hg)
    have e1 : ∀ x, dvC g x = x / g := fun x => by simp [dvC, hg]
    rw [e1, e1]
    refine Rg.step 58 F_Fractions_put_57 rfl (fun _ => rfl) ?_
    refine Rg.getf 61 F_Fractions_put_58 rfl rF_3_9 ha.1 rfl ?_
    refine Rg.step 62 F_Fractions_put_61 rfl (fun _ => rfl) ?_
    refine Rg.step 64 F_Fractions_put_62 rfl (fun _ => rfl) ?_
    refine Rg.step 65 F_Fractions_put_64 rfl (fun _ => rfl) ?_
    refine Rg.step 66 F_Fractions_put_65 rfl (fun _ => rfl) ?_
    refine Rg.ifle 76 69 F_Fractions_put_66 rfl rfl (fun h => absurd h hn) (fun _ => ?_)
    refine Rg.step 70 F_Fractions_put_69 rfl (fun _ => rfl) ?_
    refine Rg.step 72 F_Fractions_put_70 rfl (fun _ => rfl) ?_
    refine Rg.divL 73 F_Fractions_put_72 rfl hne ?_
    refine Rg.step 77 F_Fractions_put_73 rfl (fun _ => rfl) ?_
    refine Rg.last 78 F_Fractions_put_77 rfl ha.2.1 ha.2.2.2.2.1 (ix_nI hi2) (by rw [LV_len]; exact hi) ?_
    refine Rg.step 79 F_Fractions_put_78 rfl (fun _ => rfl) ?_
    refine Rg.getf 82 F_Fractions_put_79 rfl rF_3_15 (gs_ne ha.1 (ne_k ha.1 ha.2.1).symm) rfl ?_
    refine Rg.step 83 F_Fractions_put_82 rfl (fun _ => rfl) ?_
    refine Rg.step 85 F_Fractions_put_83 rfl (fun _ => rfl) ?_
    refine Rg.step 86 F_Fractions_put_85 rfl (fun _ => rfl) ?_
    refine Rg.step 87 F_Fractions_put_86 rfl (fun _ => rfl) ?_
    refine Rg.ifle 98 90 F_Fractions_put_87 rfl rfl (fun h => absurd h hn) (fun _ => ?_)
    refine Rg.step 92 F_Fractions_put_90 rfl (fun _ => rfl) ?_
    refine Rg.step 94 F_Fractions_put_92 rfl (fun _ => rfl) ?_
    refine Rg.divL 95 F_Fractions_put_94 rfl hne ?_
    refine Rg.step 100 F_Fractions_put_95 rfl (fun _ => rfl) ?_
    refine Rg.last 101 F_Fractions_put_100 rfl (gs_ne ha.2.2.1 ha.2.2.2.1) ha.2.2.2.2.2.1 (ix_nI hi2) (by rw [LV_len, ← ha.2.2.2.2.2.2.1]; exact hi) ?_
    exact Rg.ret F_Fractions_put_101 rfl
  · have hn : lg_cmp g (Int64.ofNat 1) ≤ 0 := (lg_cmp_le _ _).mpr (Int64.not_lt.mp hg)
    have e1 : ∀ x, dvC g x = x := fun x => by simp [dvC, hg]
    rw [e1, e1]
    refine Rg.step 58 F_Fractions_put_57 rfl (fun _ => rfl) ?_
    refine Rg.getf 61 F_Fractions_put_58 rfl rF_3_9 ha.1 rfl ?_
    refine Rg.step 62 F_Fractions_put_61 rfl (fun _ => rfl) ?_
    refine Rg.step 64 F_Fractions_put_62 rfl (fun _ => rfl) ?_
    refine Rg.step 65 F_Fractions_put_64 rfl (fun _ => rfl) ?_
    refine Rg.step 66 F_Fractions_put_65 rfl (fun _ => rfl) ?_
    refine Rg.ifle 76 69 F_Fractions_put_66 rfl rfl (fun _ => ?_) (fun h => absurd hn h)
    refine Rg.step 77 F_Fractions_put_76 rfl (fun _ => rfl) ?_
    refine Rg.last 78 F_Fractions_put_77 rfl ha.2.1 ha.2.2.2.2.1 (ix_nI hi2) (by rw [LV_len]; exact hi) ?_
    refine Rg.step 79 F_Fractions_put_78 rfl (fun _ => rfl) ?_
    refine Rg.getf 82 F_Fractions_put_79 rfl rF_3_15 (gs_ne ha.1 (ne_k ha.1 ha.2.1).symm) rfl ?_
    refine Rg.step 83 F_Fractions_put_82 rfl (fun _ => rfl) ?_
    refine Rg.step 85 F_Fractions_put_83 rfl (fun _ => rfl) ?_
    refine Rg.step 86 F_Fractions_put_85 rfl (fun _ => rfl) ?_
    refine Rg.step 87 F_Fractions_put_86 rfl (fun _ => rfl) ?_
    refine Rg.ifle 98 90 F_Fractions_put_87 rfl rfl (fun _ => ?_) (fun h => absurd hn h)
    refine Rg.step 100 F_Fractions_put_98 rfl (fun _ => rfl) ?_
    refine Rg.last 101 F_Fractions_put_100 rfl (gs_ne ha.2.2.1 ha.2.2.2.1) ha.2.2.2.2.2.1 (ix_nI hi2) (by rw [LV_len, ← ha.2.2.2.2.2.2.1]; exact hi) ?_
    exact Rg.ret F_Fractions_put_101 rfl
theorem c_Fr_put (d : Nat) {mem : AM} {a u v i : Nat} {U D : List Int64} {p q : Int64} (ha : FR mem a u v U D) (hi : i < U.length) : Cg false d m_Fractions_put [.ref a, .int (nI i), .long p, .long q] mem (.inl none) (fset mem u v (U.set i (dvC (gC p q) p)) (D.set i (dvC (gC p q) q))) := by
  refine Cg.of (Nat.le_of_ble_eq_true rfl) ?_
  change Rg _ _ _ _ 0 [(0, .ref a), (1, .int (nI i)), (2, .long p), (4, .long q)] [] _ _ _
  have key : ∀ rs : Int64, absL p = rs → Rg false d m_Fractions_put mem.length 21 [(10, .int (nI 0)), (8, .long rs), (6, .long q), (0, .ref a), (1, .int (nI i)), (2, .long p), (4, .long q)] [] mem (.inl none) (fset mem u v (U.set i (dvC (gC p q) p)) (D.set i (dvC (gC p q) q))) := fun rs hrs => put_loop 200 0 q rs (by omega) (by subst hrs; exact put_tail ha hi)
  refine Rg.step 2 F_Fractions_put_0 rfl (fun _ => rfl) ?_
  refine Rg.step 4 F_Fractions_put_2 rfl (fun _ => rfl) ?_
  refine Rg.step 5 F_Fractions_put_4 rfl (fun _ => rfl) ?_
  refine Rg.step 6 F_Fractions_put_5 rfl (fun _ => rfl) ?_
  refine Rg.step 7 F_Fractions_put_6 rfl (fun _ => rfl) ?_
  refine Rg.ifge 15 10 F_Fractions_put_7 rfl rfl (fun h => ?_) (fun h => ?_)
  · refine Rg.step 16 F_Fractions_put_15 rfl (fun _ => rfl) ?_
    refine Rg.step 18 F_Fractions_put_16 rfl (fun _ => rfl) ?_
    refine Rg.step 19 F_Fractions_put_18 rfl (fun _ => rfl) ?_
    refine Rg.step 21 F_Fractions_put_19 rfl (fun _ => rfl) ?_
    exact Rg.weak (key p (by simp [absL]; intro z; exact absurd z (Int64.not_lt.mpr ((lg_cmp_ge _ _).mp h)))) (by simp [lput1, lput2, Value.category]; rfl) (by simp [lput1, lput2, Value.category])
  · refine Rg.step 11 F_Fractions_put_10 rfl (fun _ => rfl) ?_
    refine Rg.step 12 F_Fractions_put_11 rfl (fun _ => rfl) ?_
    refine Rg.step 16 F_Fractions_put_12 rfl (fun _ => rfl) ?_
    refine Rg.step 18 F_Fractions_put_16 rfl (fun _ => rfl) ?_
    refine Rg.step 19 F_Fractions_put_18 rfl (fun _ => rfl) ?_
    refine Rg.step 21 F_Fractions_put_19 rfl (fun _ => rfl) ?_
    exact Rg.weak (key (-p) (by simp [absL]; intro z; exact absurd ((lg_cmp_ge _ _).mpr z) h)) (by simp [lput1, lput2, Value.category]; rfl) (by simp [lput1, lput2, Value.category])
