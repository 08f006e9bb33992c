/-! New objects of the class. -/
section R88
variable {φ : Bool} {d : Nat} {M : MI} {n0 pc : Nat} {L : AL} {st : List Value} {mem : AM} {o : Option Value ⊕ Nat} {mem' : AM}
theorem fillL_loop {a n : Nat} {f : Int → Int} {v : Int} (h : mem[a]? = some (.inl (.long, aL n f))) (ha : 2 ≤ a) (hn : n ≤ 100) : ∀ (j : Nat) (k : Int), k + j = n → 0 ≤ k → Rg false d m_Arrays_fill n0 6 [(3, .int (iI k)), (4, .int (iI (n : Int))), (0, .ref a), (1, .long (lI v))] [] (mem.set a (.inl (.long, aL n (mix k (fun _ => v) f)))) (.inl none) (mem.set a (.inl (.long, aL n (fun _ => v)))) := by
  intro j
  induction j with
  | zero =>
    intro k hk hk2
    have ek : k = n := by omega
    subst ek
    rw [mix_L]
    refine Rg.step 7 F_Arrays_fill_6 rfl (fun _ => rfl) ?_
    refine Rg.step 9 F_Arrays_fill_7 rfl (fun _ => rfl) ?_
    refine Rg.icgeI 22 12 F_Arrays_fill_9 rfl rfl (by omega) (by omega) (fun _ => ?_) (fun h9 => by omega)
    exact Rg.retV F_Arrays_fill_22 rfl rfl
  | succ j ih =>
    intro k hk hk2
    have ht := ih (k + 1) (by omega) (by omega)
    rw [← mix_up] at ht
    refine Rg.step 7 F_Arrays_fill_6 rfl (fun _ => rfl) ?_
    refine Rg.step 9 F_Arrays_fill_7 rfl (fun _ => rfl) ?_
    refine Rg.icgeI 22 12 F_Arrays_fill_9 rfl rfl (by omega) (by omega) (fun h9 => by omega) (fun _ => ?_)
    refine Rg.step 13 F_Arrays_fill_12 rfl (fun _ => rfl) ?_
    refine Rg.step 14 F_Arrays_fill_13 rfl (fun _ => rfl) ?_
    refine Rg.step 15 F_Arrays_fill_14 rfl (fun _ => rfl) ?_
    refine Rg.lst 16 F_Arrays_fill_15 rfl (gs_eq h) ha (List.set_set ..) (by omega) hn ?_
    refine Rg.inc 19 F_Arrays_fill_16 rfl rfl (by decide) ?_
    refine Rg.step 6 F_Arrays_fill_19 rfl (fun _ => rfl) ?_
    exact Rg.weak ht (by simp [lput1, lput2, Value.category, fi0, fi1, fi2, fi3] <;> first | rfl | exact ⟨rfl, rfl⟩) (by simp [lput1, lput2, Value.category, fi0, fi1, fi2, fi3] <;> first | rfl | exact ⟨rfl, rfl⟩)
theorem c_FillL {a n : Nat} {f : Int → Int} {v : Int} (h : mem[a]? = some (.inl (.long, aL n f))) (ha : 2 ≤ a) (hn : n ≤ 100) : Cg false d m_Arrays_fill [.ref a, .long (lI v)] mem (.inl none) (mem.set a (.inl (.long, aL n (fun _ => v)))) := by
  have hl := fillL_loop (d := d) (n0 := mem.length) (v := v) h ha hn n 0 (by omega) (by omega)
  rw [← mix0_L] at hl
  have hm : mem.set a (.inl (.long, aL n f)) = mem := by
    obtain ⟨h1, h2⟩ := List.getElem?_eq_some_iff.mp h
    rw [← h2, List.set_getElem_self]
  rw [hm] at hl
  refine Cg.of (Nat.le_of_ble_eq_true rfl) ?_
  change Rg _ _ _ _ 0 [(0, .ref a), (1, .long (lI v))] [] _ _ _
  refine Rg.step 1 F_Arrays_fill_0 rfl (fun _ => rfl) ?_
  refine Rg.step 2 F_Arrays_fill_1 rfl (fun _ => rfl) ?_
  refine Rg.step 3 F_Arrays_fill_2 rfl (fun _ => rfl) ?_
  refine Rg.lenA 4 F_Arrays_fill_3 rfl h (aL_len _ _) ?_
  refine Rg.step 6 F_Arrays_fill_4 rfl (fun _ => rfl) ?_
  exact Rg.weak hl (by simp [lput1, lput2, Value.category, fi0, fi1, fi2, fi3] <;> first | rfl | exact ⟨rfl, rfl⟩) (by simp [lput1, lput2, Value.category, fi0, fi1, fi2, fi3] <;> first | rfl | exact ⟨rfl, rfl⟩)
theorem fillI_loop {a n : Nat} {f : Int → Int} {v : Int} (h : mem[a]? = some (.inl (.int, aI n f))) (ha : 2 ≤ a) (hn : n ≤ 100) : ∀ (j : Nat) (k : Int), k + j = n → 0 ≤ k → Rg false d m_Arrays_fill2 n0 5 [(2, .int (iI k)), (3, .int (iI (n : Int))), (0, .ref a), (1, .int (iI v))] [] (mem.set a (.inl (.int, aI n (mix k (fun _ => v) f)))) (.inl none) (mem.set a (.inl (.int, aI n (fun _ => v)))) := by
  intro j
  induction j with
  | zero =>
    intro k hk hk2
    have ek : k = n := by omega
    subst ek
    rw [mix_I]
    refine Rg.step 6 F_Arrays_fill2_5 rfl (fun _ => rfl) ?_
    refine Rg.step 7 F_Arrays_fill2_6 rfl (fun _ => rfl) ?_
    refine Rg.icgeI 20 10 F_Arrays_fill2_7 rfl rfl (by omega) (by omega) (fun _ => ?_) (fun h7 => by omega)
    exact Rg.retV F_Arrays_fill2_20 rfl rfl
  | succ j ih =>
    intro k hk hk2
    have ht := ih (k + 1) (by omega) (by omega)
    rw [← mix_up] at ht
    refine Rg.step 6 F_Arrays_fill2_5 rfl (fun _ => rfl) ?_
    refine Rg.step 7 F_Arrays_fill2_6 rfl (fun _ => rfl) ?_
    refine Rg.icgeI 20 10 F_Arrays_fill2_7 rfl rfl (by omega) (by omega) (fun h7 => by omega) (fun _ => ?_)
    refine Rg.step 11 F_Arrays_fill2_10 rfl (fun _ => rfl) ?_
    refine Rg.step 12 F_Arrays_fill2_11 rfl (fun _ => rfl) ?_
    refine Rg.step 13 F_Arrays_fill2_12 rfl (fun _ => rfl) ?_
    refine Rg.ist 14 F_Arrays_fill2_13 rfl (gs_eq h) ha (List.set_set ..) (by omega) hn ?_
    refine Rg.inc 17 F_Arrays_fill2_14 rfl rfl (by decide) ?_
    refine Rg.step 5 F_Arrays_fill2_17 rfl (fun _ => rfl) ?_
    exact Rg.weak ht (by simp [lput1, lput2, Value.category, fi0, fi1, fi2, fi3] <;> first | rfl | exact ⟨rfl, rfl⟩) (by simp [lput1, lput2, Value.category, fi0, fi1, fi2, fi3] <;> first | rfl | exact ⟨rfl, rfl⟩)
theorem c_FillI {a n : Nat} {f : Int → Int} {v : Int} (h : mem[a]? = some (.inl (.int, aI n f))) (ha : 2 ≤ a) (hn : n ≤ 100) : Cg false d m_Arrays_fill2 [.ref a, .int (iI v)] mem (.inl none) (mem.set a (.inl (.int, aI n (fun _ => v)))) := by
  have hl := fillI_loop (d := d) (n0 := mem.length) (v := v) h ha hn n 0 (by omega) (by omega)
  rw [← mix0_I] at hl
  have hm : mem.set a (.inl (.int, aI n f)) = mem := by
    obtain ⟨h1, h2⟩ := List.getElem?_eq_some_iff.mp h
    rw [← h2, List.set_getElem_self]
  rw [hm] at hl
  refine Cg.of (Nat.le_of_ble_eq_true rfl) ?_
  change Rg _ _ _ _ 0 [(0, .ref a), (1, .int (iI v))] [] _ _ _
  refine Rg.step 1 F_Arrays_fill2_0 rfl (fun _ => rfl) ?_
  refine Rg.step 2 F_Arrays_fill2_1 rfl (fun _ => rfl) ?_
  refine Rg.step 3 F_Arrays_fill2_2 rfl (fun _ => rfl) ?_
  refine Rg.lenA 4 F_Arrays_fill2_3 rfl h (aI_len _ _) ?_
  refine Rg.step 5 F_Arrays_fill2_4 rfl (fun _ => rfl) ?_
  exact Rg.weak hl (by simp [lput1, lput2, Value.category, fi0, fi1, fi2, fi3] <;> first | rfl | exact ⟨rfl, rfl⟩) (by simp [lput1, lput2, Value.category, fi0, fi1, fi2, fi3] <;> first | rfl | exact ⟨rfl, rfl⟩)
section OT
variable {m T : AM} {b k c : Nat} {fs : List Value} {x : AC}
theorem lenT (hb : m.length = b) (hT : T.length = k) : (m ++ (x :: T)).length = b + (k + 1) := by rw [List.length_append, hb, List.length_cons, hT]
theorem appT {Y : AM} : (m ++ (x :: T)) ++ Y = m ++ (x :: (T ++ Y)) := by rw [List.append_assoc]; rfl
theorem gOT (hb : m.length = b) : (m ++ (x :: T))[b]? = some x := by rw [List.getElem?_append_right (by omega), hb, Nat.sub_self]; rfl
theorem sOT {y : AC} (hb : m.length = b) : (m ++ (x :: T)).set b y = m ++ (y :: T) := by rw [List.set_append_right _ _ (by omega), hb, Nat.sub_self]; rfl
theorem gT' {i : Nat} (hb : m.length = b) : (m ++ (x :: T))[b + (i + 1)]? = T[i]? := by rw [List.getElem?_append_right (by omega), hb, show b + (i + 1) - b = i + 1 by omega]; rfl
theorem sT' {i : Nat} {y : AC} (hb : m.length = b) : (m ++ (x :: T)).set (b + (i + 1)) y = m ++ (x :: T.set i y) := by rw [List.set_append_right _ _ (by omega), hb, show b + (i + 1) - b = i + 1 by omega]; rfl
theorem Rg.newT {t : ArrayType} {ty : FieldType} {n : Int32} {j : Nat} (pc' : Nat) (hf : fetch M pc = some (.newarray t)) (hp : pc + 2 = pc') (ht : ats t = some ty) (hj : ix n = some j) (hk : j ≤ 100) (hb : m.length = b) (hT : T.length = k) {y : AC} (hy : y = .inl (ty, List.replicate j (defaultValue ty))) (kk : Rg φ d M n0 pc' L (.ref (b + (k + 1)) :: st) (m ++ (x :: (T ++ [y]))) o mem') : Rg φ d M n0 pc L (.int n :: st) (m ++ (x :: T)) o mem' := by
  refine Rg.newa pc' hf hp ht hj hk ?_
  rw [lenT hb hT, appT, ← hy]
  exact kk
theorem Rg.anewT {i : Nat} {C : String} {n : Int32} {j : Nat} (pc' : Nat) (hf : fetch M pc = some (.anewarray i)) (hp : pc + 3 = pc') (hr : rA (mH M) i = some C) (hj : ix n = some j) (hk : j ≤ 100) (hb : m.length = b) (hT : T.length = k) (kk : Rg φ d M n0 pc' L (.ref (b + (k + 1)) :: st) (m ++ (x :: (T ++ [.inl (.object C, List.replicate j .null)]))) o mem') : Rg φ d M n0 pc L (.int n :: st) (m ++ (x :: T)) o mem' := by
  refine Rg.anew pc' hf hp hr hj hk ?_
  rw [lenT hb hT, appT]
  exact kk
theorem Rg.newOT {i ci : Nat} {rr : vw_C} {t : Nat → FieldType} (pc' : Nat) (hf : fetch M pc = some (.new i)) (hp : pc + 3 = pc') (hr : rC (mH M) i = some ci) (hcl : CLs[ci]? = some rr) (ht : tys[ci]? = some t) (h12 : ¬ 12 ≤ ci) (hfs : (List.range rr.2.2).map (fun j => defaultValue (t j)) = fs) (hb : m.length = b) (hT : T.length = k) (kk : Rg φ d M n0 pc' L (.ref (b + (k + 1)) :: st) (m ++ (x :: (T ++ [.inr (ci, fs)]))) o mem') : Rg φ d M n0 pc L st (m ++ (x :: T)) o mem' := by
  refine Rg.new pc' hf hp hr hcl ht h12 hfs ?_
  rw [lenT hb hT, appT]
  exact kk
theorem Cg.inT {m' : MI} {as9 : List Value} {y : AC} {Y : AM} (hb : m.length = b) (hT : T.length = k) (h : ∀ m1 : AM, m1.length = b + (k + 1) → Cg φ d m' as9 (m1 ++ [y]) o (m1 ++ Y)) : Cg φ d m' as9 (m ++ (x :: (T ++ [y]))) o (m ++ (x :: (T ++ Y))) := by
  have := h _ (lenT (x := x) hb hT)
  rw [appT, appT] at this
  exact this
end OT
def XFr (n b : Nat) : AM := [.inr (3, [.ref (b + 1), .ref (b + 2)]), .inl (.long, aL n (fun _ => 0)), .inl (.long, aL n (fun _ => 1))]
def XSt (b : Nat) : AM := .inr (6, [.int 0, .ref (b + 1)]) :: XFr 8 (b + 1)
def XTe (n b : Nat) : AM := .inr (8, [.int 0, .ref (b + 1), .ref (b + 2), .ref (b + 3), .ref (b + 4)]) :: ([.inl (.int, aI n (fun _ => 0)), .inl (.int, aI n (fun _ => 0)), .inl (.int, aI n (fun _ => 0))] ++ XFr n (b + 4))
theorem c_Fr_init {m : AM} {b : Nat} {n : Nat} (hb : m.length = b) (h2 : 2 ≤ b) (hn : n ≤ 100) : Cg false (d + 1) m_Fractions_init [.ref b, .int (iI (n : Int))] (m ++ [.inr (3, [.null, .null])]) (.inl none) (m ++ XFr n b) := by
  refine Cg.of (Nat.le_of_ble_eq_true rfl) ?_
  change Rg _ _ _ _ 0 [(0, .ref b), (1, .int (iI (n : Int)))] [] (m ++ (_ :: ([] : AM))) _ _
  have hx : ix (iI (n : Int)) = some n := by rw [ix_iI (by omega)]; rfl
  refine Rg.step 1 F_Fractions_init_0 rfl (fun _ => rfl) ?_
  refine Rg.step 4 F_Fractions_init_1 (by dsimp only [one]; rw [show rX (mH m_Fractions_init) 3 = some 0 from rX_3_3]; rfl) (fun _ => rfl) ?_
  refine Rg.step 5 F_Fractions_init_4 rfl (fun _ => rfl) ?_
  refine Rg.step 6 F_Fractions_init_5 rfl (fun _ => rfl) ?_
  refine Rg.newT (j := n) (k := 0) 8 F_Fractions_init_6 rfl rfl (hx) hn hb rfl (nwL n) ?_
  refine Rg.put 11 F_Fractions_init_8 rfl rF_3_9 (gOT hb) (by omega) (Nat.le_of_ble_eq_true rfl) (Or.inr (Or.inr ⟨rfl, rfl⟩)) rfl (sOT hb) ?_
  refine Rg.step 12 F_Fractions_init_11 rfl (fun _ => rfl) ?_
  refine Rg.step 13 F_Fractions_init_12 rfl (fun _ => rfl) ?_
  refine Rg.newT (j := n) (k := 1) 15 F_Fractions_init_13 rfl rfl (hx) hn hb rfl (nwL n) ?_
  refine Rg.put 18 F_Fractions_init_15 rfl rF_3_15 (gOT hb) (by omega) (Nat.le_of_ble_eq_true rfl) (Or.inr (Or.inr ⟨rfl, rfl⟩)) rfl (sOT hb) ?_
  refine Rg.step 19 F_Fractions_init_18 rfl (fun _ => rfl) ?_
  refine Rg.getf 22 F_Fractions_init_19 rfl rF_3_15 (gOT hb) rfl ?_
  refine Rg.lcn (n := 1) 23 F_Fractions_init_22 rfl rfl ?_
  refine Rg.call 26 F_Fractions_init_23 rfl (one_S (by decide +kernel) rM_3_18 (by decide) (by simp) rfl rfl) (Nat.le_of_ble_eq_true rfl) (c_FillL (n := n) (f := fun _ => 0) ((gT' hb).trans rfl) (by omega) hn) ?_
  rw [sT' hb]
  exact Rg.retV F_Fractions_init_26 rfl rfl
theorem c_St_init {m : AM} {b : Nat}  (hb : m.length = b) (h2 : 2 ≤ b)  : Cg false (d + 2) m_State_init [.ref b] (m ++ [.inr (6, [.int 0, .null])]) (.inl none) (m ++ XSt b) := by
  refine Cg.of (Nat.le_of_ble_eq_true rfl) ?_
  change Rg _ _ _ _ 0 [(0, .ref b)] [] (m ++ (_ :: ([] : AM))) _ _
  refine Rg.step 1 F_State_init_0 rfl (fun _ => rfl) ?_
  refine Rg.step 4 F_State_init_1 (by dsimp only [one]; rw [show rX (mH m_State_init) 3 = some 0 from rX_9_3]; rfl) (fun _ => rfl) ?_
  refine Rg.step 5 F_State_init_4 rfl (fun _ => rfl) ?_
  refine Rg.newOT (k := 0) 8 F_State_init_5 rfl rC_9_9 rfl rfl (by decide) rfl hb rfl ?_
  refine Rg.step 9 F_State_init_8 rfl (fun _ => rfl) ?_
  refine Rg.bip 11 F_State_init_9 rfl rfl ?_
  refine Rg.call 14 F_State_init_11 rfl (one_I (by decide +kernel) rM_9_11 (by decide) (by simp) rfl rfl) (Nat.le_of_ble_eq_true rfl) (Cg.inT (k := 0) hb rfl (fun m1 h1 => c_Fr_init (n := 8) h1 (by omega) (by decide))) ?_
  refine Rg.put 17 F_State_init_14 rfl rF_9_14 (gOT hb) (by omega) (Nat.le_of_ble_eq_true rfl) (Or.inr (Or.inr ⟨rfl, rfl⟩)) rfl (sOT hb) ?_
  exact Rg.retV F_State_init_17 rfl rfl
theorem c_Te_init {m : AM} {b : Nat} {n : Nat} (hb : m.length = b) (h2 : 2 ≤ b) (hn : n ≤ 100) : Cg false (d + 2) m_Terms_init [.ref b, .int (iI (n : Int))] (m ++ [.inr (8, [.int 0, .null, .null, .null, .null])]) (.inl none) (m ++ XTe n b) := by
  refine Cg.of (Nat.le_of_ble_eq_true rfl) ?_
  change Rg _ _ _ _ 0 [(0, .ref b), (1, .int (iI (n : Int)))] [] (m ++ (_ :: ([] : AM))) _ _
  have hx : ix (iI (n : Int)) = some n := by rw [ix_iI (by omega)]; rfl
  refine Rg.step 1 F_Terms_init_0 rfl (fun _ => rfl) ?_
  refine Rg.step 4 F_Terms_init_1 (by dsimp only [one]; rw [show rX (mH m_Terms_init) 3 = some 0 from rX_24_3]; rfl) (fun _ => rfl) ?_
  refine Rg.step 5 F_Terms_init_4 rfl (fun _ => rfl) ?_
  refine Rg.step 6 F_Terms_init_5 rfl (fun _ => rfl) ?_
  refine Rg.newT (j := n) (k := 0) 8 F_Terms_init_6 rfl rfl (hx) hn hb rfl (nwI n) ?_
  refine Rg.put 11 F_Terms_init_8 rfl rF_24_9 (gOT hb) (by omega) (Nat.le_of_ble_eq_true rfl) (Or.inr (Or.inr ⟨rfl, rfl⟩)) rfl (sOT hb) ?_
  refine Rg.step 12 F_Terms_init_11 rfl (fun _ => rfl) ?_
  refine Rg.step 13 F_Terms_init_12 rfl (fun _ => rfl) ?_
  refine Rg.newT (j := n) (k := 1) 15 F_Terms_init_13 rfl rfl (hx) hn hb rfl (nwI n) ?_
  refine Rg.put 18 F_Terms_init_15 rfl rF_24_15 (gOT hb) (by omega) (Nat.le_of_ble_eq_true rfl) (Or.inr (Or.inr ⟨rfl, rfl⟩)) rfl (sOT hb) ?_
  refine Rg.step 19 F_Terms_init_18 rfl (fun _ => rfl) ?_
  refine Rg.step 20 F_Terms_init_19 rfl (fun _ => rfl) ?_
  refine Rg.newT (j := n) (k := 2) 22 F_Terms_init_20 rfl rfl (hx) hn hb rfl (nwI n) ?_
  refine Rg.put 25 F_Terms_init_22 rfl rF_24_18 (gOT hb) (by omega) (Nat.le_of_ble_eq_true rfl) (Or.inr (Or.inr ⟨rfl, rfl⟩)) rfl (sOT hb) ?_
  refine Rg.step 26 F_Terms_init_25 rfl (fun _ => rfl) ?_
  refine Rg.newOT (k := 3) 29 F_Terms_init_26 rfl rC_24_21 rfl rfl (by decide) rfl hb rfl ?_
  refine Rg.step 30 F_Terms_init_29 rfl (fun _ => rfl) ?_
  refine Rg.step 31 F_Terms_init_30 rfl (fun _ => rfl) ?_
  refine Rg.call 34 F_Terms_init_31 rfl (one_I (by decide +kernel) rM_24_23 (by decide) (by simp) rfl rfl) (Nat.le_of_ble_eq_true rfl) (Cg.inT (k := 3) hb rfl (fun m1 h1 => c_Fr_init (n := n) h1 (by omega) hn)) ?_
  refine Rg.put 37 F_Terms_init_34 rfl rF_24_26 (gOT hb) (by omega) (Nat.le_of_ble_eq_true rfl) (Or.inr (Or.inr ⟨rfl, rfl⟩)) rfl (sOT hb) ?_
  exact Rg.retV F_Terms_init_37 rfl rfl
theorem aK_0 {n : Nat} : aK n (fun _ _ => False) = aI n (fun _ => 0) := by
  unfold aK aI
  dsimp only
  rw [mk_zero]
  rfl
theorem act_new {b : Nat} : (actL b 0 0 (fun _ => False) (fun _ _ => False) (fun _ _ => False) 0 (fun _ => 0) (fun _ => 0) (fun _ => 0) (fun _ => 0) (fun _ => 1) (fun _ _ => False) (fun _ _ => False) 0 (fun _ => 0) (fun _ => 0) (fun _ => 0) (fun _ => 0) (fun _ => 1) (fun _ _ => False) (fun _ _ => False) (fun _ => -2) (fun _ => 0) (fun _ => 1)) = (.inr (1, [.int 0, .int 0, .ref (b + 1), .ref (b + 2), .ref (b + 3), .ref (b + 10), .ref (b + 11), .ref (b + 12), .ref (b + 19), .ref (b + 20), .int 0, .ref (b + 21), .ref (b + 22)]) :: ([.inl (.int, aI 3 (fun _ => 0)), .inl (.int, aI 3 (fun _ => 0))] ++ (XTe 8 (b + 3) ++ ([.inl (.int, aI 3 (fun _ => 0)), .inl (.int, aI 3 (fun _ => 0))] ++ (XTe 6 (b + 12) ++ ([.inl (.int, aI 3 (fun _ => 0)), .inl (.int, aI 3 (fun _ => 0)), .inl (.int, aI 2 (fun _ => -2))] ++ XFr 2 (b + 22))))))) := by
  unfold actL
  rw [mk_zero, aK_0]
  rfl
theorem c_Ac_init {m : AM} {b : Nat}  (hb : m.length = b) (h2 : 2 ≤ b)  : Cg false (d + 3) m_Action_init [.ref b] (m ++ [.inr (1, [.int 0, .int 0, .null, .null, .null, .null, .null, .null, .null, .null, .int 0, .null, .null])]) (.inl none) (m ++ (actL b 0 0 (fun _ => False) (fun _ _ => False) (fun _ _ => False) 0 (fun _ => 0) (fun _ => 0) (fun _ => 0) (fun _ => 0) (fun _ => 1) (fun _ _ => False) (fun _ _ => False) 0 (fun _ => 0) (fun _ => 0) (fun _ => 0) (fun _ => 0) (fun _ => 1) (fun _ _ => False) (fun _ _ => False) (fun _ => -2) (fun _ => 0) (fun _ => 1))) := by
  refine Cg.of (Nat.le_of_ble_eq_true rfl) ?_
  change Rg _ _ _ _ 0 [(0, .ref b)] [] (m ++ (_ :: ([] : AM))) _ _
  rw [act_new]
  refine Rg.step 1 F_Action_init_0 rfl (fun _ => rfl) ?_
  refine Rg.step 4 F_Action_init_1 (by dsimp only [one]; rw [show rX (mH m_Action_init) 3 = some 0 from rX_17_3]; rfl) (fun _ => rfl) ?_
  refine Rg.step 5 F_Action_init_4 rfl (fun _ => rfl) ?_
  refine Rg.step 6 F_Action_init_5 rfl (fun _ => rfl) ?_
  refine Rg.newT (j := 3) (k := 0) 8 F_Action_init_6 rfl rfl (by decide) (by decide) hb rfl (nwI 3) ?_
  refine Rg.put 11 F_Action_init_8 rfl rF_17_9 (gOT hb) (by omega) (Nat.le_of_ble_eq_true rfl) (Or.inr (Or.inr ⟨rfl, rfl⟩)) rfl (sOT hb) ?_
  refine Rg.step 12 F_Action_init_11 rfl (fun _ => rfl) ?_
  refine Rg.step 13 F_Action_init_12 rfl (fun _ => rfl) ?_
  refine Rg.newT (j := 3) (k := 1) 15 F_Action_init_13 rfl rfl (by decide) (by decide) hb rfl (nwI 3) ?_
  refine Rg.put 18 F_Action_init_15 rfl rF_17_15 (gOT hb) (by omega) (Nat.le_of_ble_eq_true rfl) (Or.inr (Or.inr ⟨rfl, rfl⟩)) rfl (sOT hb) ?_
  refine Rg.step 19 F_Action_init_18 rfl (fun _ => rfl) ?_
  refine Rg.newOT (k := 2) 22 F_Action_init_19 rfl rC_17_18 rfl rfl (by decide) rfl hb rfl ?_
  refine Rg.step 23 F_Action_init_22 rfl (fun _ => rfl) ?_
  refine Rg.bip 25 F_Action_init_23 rfl rfl ?_
  refine Rg.call 28 F_Action_init_25 rfl (one_I (by decide +kernel) rM_17_20 (by decide) (by simp) rfl rfl) (Nat.le_of_ble_eq_true rfl) (Cg.inT (k := 2) hb rfl (fun m1 h1 => c_Te_init (n := 8) h1 (by omega) (by decide))) ?_
  refine Rg.put 31 F_Action_init_28 rfl rF_17_23 (gOT hb) (by omega) (Nat.le_of_ble_eq_true rfl) (Or.inr (Or.inr ⟨rfl, rfl⟩)) rfl (sOT hb) ?_
  refine Rg.step 32 F_Action_init_31 rfl (fun _ => rfl) ?_
  refine Rg.step 33 F_Action_init_32 rfl (fun _ => rfl) ?_
  refine Rg.newT (j := 3) (k := 9) 35 F_Action_init_33 rfl rfl (by decide) (by decide) hb rfl (nwI 3) ?_
  refine Rg.put 38 F_Action_init_35 rfl rF_17_27 (gOT hb) (by omega) (Nat.le_of_ble_eq_true rfl) (Or.inr (Or.inr ⟨rfl, rfl⟩)) rfl (sOT hb) ?_
  refine Rg.step 39 F_Action_init_38 rfl (fun _ => rfl) ?_
  refine Rg.step 40 F_Action_init_39 rfl (fun _ => rfl) ?_
  refine Rg.newT (j := 3) (k := 10) 42 F_Action_init_40 rfl rfl (by decide) (by decide) hb rfl (nwI 3) ?_
  refine Rg.put 45 F_Action_init_42 rfl rF_17_30 (gOT hb) (by omega) (Nat.le_of_ble_eq_true rfl) (Or.inr (Or.inr ⟨rfl, rfl⟩)) rfl (sOT hb) ?_
  refine Rg.step 46 F_Action_init_45 rfl (fun _ => rfl) ?_
  refine Rg.newOT (k := 11) 49 F_Action_init_46 rfl rC_17_18 rfl rfl (by decide) rfl hb rfl ?_
  refine Rg.step 50 F_Action_init_49 rfl (fun _ => rfl) ?_
  refine Rg.bip 52 F_Action_init_50 rfl rfl ?_
  refine Rg.call 55 F_Action_init_52 rfl (one_I (by decide +kernel) rM_17_20 (by decide) (by simp) rfl rfl) (Nat.le_of_ble_eq_true rfl) (Cg.inT (k := 11) hb rfl (fun m1 h1 => c_Te_init (n := 6) h1 (by omega) (by decide))) ?_
  refine Rg.put 58 F_Action_init_55 rfl rF_17_33 (gOT hb) (by omega) (Nat.le_of_ble_eq_true rfl) (Or.inr (Or.inr ⟨rfl, rfl⟩)) rfl (sOT hb) ?_
  refine Rg.step 59 F_Action_init_58 rfl (fun _ => rfl) ?_
  refine Rg.step 60 F_Action_init_59 rfl (fun _ => rfl) ?_
  refine Rg.newT (j := 3) (k := 18) 62 F_Action_init_60 rfl rfl (by decide) (by decide) hb rfl (nwI 3) ?_
  refine Rg.put 65 F_Action_init_62 rfl rF_17_36 (gOT hb) (by omega) (Nat.le_of_ble_eq_true rfl) (Or.inr (Or.inr ⟨rfl, rfl⟩)) rfl (sOT hb) ?_
  refine Rg.step 66 F_Action_init_65 rfl (fun _ => rfl) ?_
  refine Rg.step 67 F_Action_init_66 rfl (fun _ => rfl) ?_
  refine Rg.newT (j := 3) (k := 19) 69 F_Action_init_67 rfl rfl (by decide) (by decide) hb rfl (nwI 3) ?_
  refine Rg.put 72 F_Action_init_69 rfl rF_17_39 (gOT hb) (by omega) (Nat.le_of_ble_eq_true rfl) (Or.inr (Or.inr ⟨rfl, rfl⟩)) rfl (sOT hb) ?_
  refine Rg.step 73 F_Action_init_72 rfl (fun _ => rfl) ?_
  refine Rg.step 74 F_Action_init_73 rfl (fun _ => rfl) ?_
  refine Rg.newT (j := 2) (k := 20) 76 F_Action_init_74 rfl rfl (by decide) (by decide) hb rfl (nwI 2) ?_
  refine Rg.put 79 F_Action_init_76 rfl rF_17_42 (gOT hb) (by omega) (Nat.le_of_ble_eq_true rfl) (Or.inr (Or.inr ⟨rfl, rfl⟩)) rfl (sOT hb) ?_
  refine Rg.step 80 F_Action_init_79 rfl (fun _ => rfl) ?_
  refine Rg.newOT (k := 21) 83 F_Action_init_80 rfl rC_17_45 rfl rfl (by decide) rfl hb rfl ?_
  refine Rg.step 84 F_Action_init_83 rfl (fun _ => rfl) ?_
  refine Rg.step 85 F_Action_init_84 rfl (fun _ => rfl) ?_
  refine Rg.call 88 F_Action_init_85 rfl (one_I (by decide +kernel) rM_17_47 (by decide) (by simp) rfl rfl) (Nat.le_of_ble_eq_true rfl) (Cg.inT (k := 21) hb rfl (fun m1 h1 => c_Fr_init (n := 2) h1 (by omega) (by decide))) ?_
  refine Rg.put 91 F_Action_init_88 rfl rF_17_48 (gOT hb) (by omega) (Nat.le_of_ble_eq_true rfl) (Or.inr (Or.inr ⟨rfl, rfl⟩)) rfl (sOT hb) ?_
  refine Rg.step 92 F_Action_init_91 rfl (fun _ => rfl) ?_
  refine Rg.getf 95 F_Action_init_92 rfl rF_17_42 (gOT hb) rfl ?_
  refine Rg.bip 97 F_Action_init_95 rfl rfl ?_
  refine Rg.call 100 F_Action_init_97 rfl (one_S (by decide +kernel) rM_17_52 (by decide) (by simp) rfl rfl) (Nat.le_of_ble_eq_true rfl) (c_FillI (n := 2) (f := fun _ => 0) ((gT' hb).trans rfl) (by omega) (by decide)) ?_
  rw [sT' hb]
  exact Rg.retV F_Action_init_100 rfl rfl
end R88
