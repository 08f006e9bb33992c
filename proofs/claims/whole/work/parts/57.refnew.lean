/-! The reference: a new one. -/
theorem nwI (n : Nat) : (.inl (.int, aI n (fun _ => 0)) : AC) = .inl (.int, List.replicate n (defaultValue .int)) := by
  unfold aI
  rw [List.map_const', List.length_range]
  rfl
theorem nwL (n : Nat) : (.inl (.long, aL n (fun _ => 0)) : AC) = .inl (.long, List.replicate n (defaultValue .long)) := by
  unfold aL
  rw [List.map_const', List.length_range]
  rfl
theorem nwZ (n : Nat) : (.inl (.boolean, aZ n (fun _ => False)) : AC) = .inl (.boolean, List.replicate n (defaultValue .boolean)) := by
  unfold aZ
  rw [List.map_const', List.length_range, bP_f (fun z => z)]
  rfl
/-- an object of kind c at 168 that is being made, with its rows behind it -/
def CM (pre : AM) (c : Nat) (fs : List Value) (as : AM) : AM := pre ++ (.inr (c, fs) :: as)
section NEW
variable {pre as : AM} {c : Nat} {fs : List Value}
theorem CM_get (hp : pre.length = 168) : (CM pre c fs as)[168]? = some (.inr (c, fs)) := by
  unfold CM
  rw [List.getElem?_append_right (by omega), hp]
  rfl
theorem CM_put (hp : pre.length = 168) {fs1 : List Value} {j : Nat} {v : Value} (h : fs.set j v = fs1) : (CM pre c fs as).set 168 (.inr (c, fs.set j v)) = CM pre c fs1 as := by
  unfold CM
  rw [List.set_append_right _ _ (by omega), hp, h]
  rfl
theorem Rg.newC {φ : Bool} {d : Nat} {M : MI} {n0 pc : Nat} {L : AL} {st : List Value} {o : Option Value ⊕ Nat} {mem' : AM} {t : ArrayType} {ty : FieldType} {n : Int32} {k : Nat} (pc' : Nat) (hf : fetch M pc = some (.newarray t)) (hp : pc + 2 = pc') (ht : ats t = some ty) (hj : ix n = some k) (hk : k ≤ 100) (hP : pre.length = 168) {x : AC} (hx : x = .inl (ty, List.replicate k (defaultValue ty))) {a : Nat} (ha : as.length + 169 = a) (kk : Rg φ d M n0 pc' L (.ref a :: st) (CM pre c fs (as ++ [x])) o mem') : Rg φ d M n0 pc L (.int n :: st) (CM pre c fs as) o mem' := by
  refine Rg.newa pc' hf hp ht hj hk ?_
  have e1 : (CM pre c fs as).length = a := by
    unfold CM
    rw [List.length_append, List.length_cons, hP]
    omega
  have e2 : CM pre c fs as ++ [.inl (ty, List.replicate k (defaultValue ty))] = CM pre c fs (as ++ [x]) := by
    unfold CM
    rw [hx, List.append_assoc]
    rfl
  rw [e1, e2]
  exact kk
end NEW
section R57
variable {pre post mem : AM}
variable {code amountN amountD momentN momentD epsilonN epsilonD actions steps rows tried triedRows unit point judged fault faultPoint outN outD : Int}
variable {firstN firstD wishes wants wantN wantD needs needTime needOf needHow needN needD changes changeTime changeOf changeHow changeN changeD lastOf lastN lastD stepAction startN startD lengthN lengthD row triedAction triedRow times numN numD oldN oldD toldN toldD pointN pointD leastN leastD greatestN greatestD events : Int → Int}
variable {firstFacts facts oldFacts toldFacts gone now : Int → Prop}
theorem init_l2 {d n0 : Nat} (hp : pre.length = 168) : ∀ (n : Nat) (k : Int), k + n = 16 → 0 ≤ k → Rg false d m_Mo_init n0 460 [(1, .int (iI k)), (0, .ref 168)] [] (MR pre code amountN amountD momentN momentD epsilonN epsilonD firstFacts firstN firstD (mix k (fun _ => (-1 : Int)) wishes) wants wantN wantD actions needs needTime needOf needHow needN needD changes changeTime changeOf changeHow changeN changeD lastOf lastN lastD steps stepAction startN startD lengthN lengthD rows row tried triedAction triedRows triedRow times unit facts numN numD oldFacts oldN oldD point judged fault faultPoint toldFacts toldN toldD outN outD pointN pointD gone now leastN leastD greatestN greatestD events post) (.inl none) (MR pre code amountN amountD momentN momentD epsilonN epsilonD firstFacts firstN firstD (mix 16 (fun _ => (-1 : Int)) wishes) wants wantN wantD actions needs needTime needOf needHow needN needD changes changeTime changeOf changeHow changeN changeD lastOf lastN lastD steps stepAction startN startD lengthN lengthD rows row tried triedAction triedRows triedRow times unit facts numN numD oldFacts oldN oldD point judged fault faultPoint toldFacts toldN toldD outN outD pointN pointD gone now leastN leastD greatestN greatestD events post) := by
  intro n
  induction n with
  | zero =>
    intro k hk hk2
    have hk : k = 16 := by omega
    subst hk
    refine Rg.step 461 F_Mo_init_460 rfl (fun _ => rfl) ?_
    refine Rg.bip 463 F_Mo_init_461 rfl rfl ?_
    refine Rg.icgeI 479 466 F_Mo_init_463 rfl rfl (by omega) (by omega) (fun _ => ?_) (fun h463 => by omega)
    exact Rg.retV F_Mo_init_479 rfl rfl
  | succ n ih =>
    intro k hk hk2
    refine Rg.step 461 F_Mo_init_460 rfl (fun _ => rfl) ?_
    refine Rg.bip 463 F_Mo_init_461 rfl rfl ?_
    refine Rg.icgeI 479 466 F_Mo_init_463 rfl rfl (by omega) (by omega) (fun h463 => by omega) (fun _ => ?_)
    refine Rg.step 467 F_Mo_init_466 rfl (fun _ => rfl) ?_
    refine Rg.getf 470 F_Mo_init_467 rfl rF_26_35 (gM hp) rfl ?_
    refine Rg.step 471 F_Mo_init_470 rfl (fun _ => rfl) ?_
    refine Rg.step 472 F_Mo_init_471 rfl (fun _ => rfl) ?_
    refine Rg.ist 473 F_Mo_init_472 rfl (gR_wishes hp) (by decide) (sR_wishes hp) (by omega) (by decide) ?_
    refine Rg.inc 476 F_Mo_init_473 rfl rfl (by decide) ?_
    refine Rg.step 460 F_Mo_init_476 rfl (fun _ => rfl) ?_
    rw [mix_up (f := (fun _ => (-1 : Int)))]
    exact Rg.weak (ih (k + 1) (by omega) (by omega)) (by simp [lput1, lput2, Value.category, fi0, fi1, fi2, fi3] <;> first | rfl | exact ⟨rfl, rfl⟩) (by simp [lput1, lput2, Value.category, fi0, fi1, fi2, fi3] <;> first | rfl | exact ⟨rfl, rfl⟩)
theorem init_l1 {d n0 : Nat} (hp : pre.length = 168) {o : Option Value ⊕ Nat} {mem1 : AM} (hg : Rg false d m_Mo_init n0 458 [(0, .ref 168)] [] (MR pre code amountN amountD momentN momentD epsilonN epsilonD firstFacts firstN (mix 8 (fun _ => (1 : Int)) firstD) wishes (mix 8 (fun _ => (-1 : Int)) wants) wantN (mix 8 (fun _ => (1 : Int)) wantD) actions needs needTime needOf needHow needN needD changes changeTime changeOf changeHow changeN changeD lastOf lastN lastD steps stepAction startN startD lengthN lengthD rows row tried triedAction triedRows triedRow times unit facts numN numD oldFacts oldN oldD point judged fault faultPoint toldFacts toldN toldD outN outD pointN pointD gone now leastN leastD greatestN greatestD events post) o mem1) : ∀ (n : Nat) (k : Int), k + n = 8 → 0 ≤ k → Rg false d m_Mo_init n0 425 [(1, .int (iI k)), (0, .ref 168)] [] (MR pre code amountN amountD momentN momentD epsilonN epsilonD firstFacts firstN (mix k (fun _ => (1 : Int)) firstD) wishes (mix k (fun _ => (-1 : Int)) wants) wantN (mix k (fun _ => (1 : Int)) wantD) actions needs needTime needOf needHow needN needD changes changeTime changeOf changeHow changeN changeD lastOf lastN lastD steps stepAction startN startD lengthN lengthD rows row tried triedAction triedRows triedRow times unit facts numN numD oldFacts oldN oldD point judged fault faultPoint toldFacts toldN toldD outN outD pointN pointD gone now leastN leastD greatestN greatestD events post) o mem1 := by
  intro n
  induction n with
  | zero =>
    intro k hk hk2
    have hk : k = 8 := by omega
    subst hk
    refine Rg.step 426 F_Mo_init_425 rfl (fun _ => rfl) ?_
    refine Rg.bip 428 F_Mo_init_426 rfl rfl ?_
    refine Rg.icgeI 458 431 F_Mo_init_428 rfl rfl (by omega) (by omega) (fun _ => ?_) (fun h428 => by omega)
    exact Rg.weak hg (by simp [lput1, lput2, Value.category, fi0, fi1, fi2, fi3] <;> first | rfl | exact ⟨rfl, rfl⟩) (by simp [lput1, lput2, Value.category, fi0, fi1, fi2, fi3] <;> first | rfl | exact ⟨rfl, rfl⟩)
  | succ n ih =>
    intro k hk hk2
    refine Rg.step 426 F_Mo_init_425 rfl (fun _ => rfl) ?_
    refine Rg.bip 428 F_Mo_init_426 rfl rfl ?_
    refine Rg.icgeI 458 431 F_Mo_init_428 rfl rfl (by omega) (by omega) (fun h428 => by omega) (fun _ => ?_)
    refine Rg.step 432 F_Mo_init_431 rfl (fun _ => rfl) ?_
    refine Rg.getf 435 F_Mo_init_432 rfl rF_26_32 (gM hp) rfl ?_
    refine Rg.step 436 F_Mo_init_435 rfl (fun _ => rfl) ?_
    refine Rg.lcn (n := 1) 437 F_Mo_init_436 rfl rfl ?_
    refine Rg.lst 438 F_Mo_init_437 rfl (gR_firstD hp) (by decide) (sR_firstD hp) (by omega) (by decide) ?_
    rw [mix_up (f := (fun _ => (1 : Int)))]
    refine Rg.step 439 F_Mo_init_438 rfl (fun _ => rfl) ?_
    refine Rg.getf 442 F_Mo_init_439 rfl rF_26_39 (gM hp) rfl ?_
    refine Rg.step 443 F_Mo_init_442 rfl (fun _ => rfl) ?_
    refine Rg.step 444 F_Mo_init_443 rfl (fun _ => rfl) ?_
    refine Rg.ist 445 F_Mo_init_444 rfl (gR_wants hp) (by decide) (sR_wants hp) (by omega) (by decide) ?_
    rw [mix_up (f := (fun _ => (-1 : Int)))]
    refine Rg.step 446 F_Mo_init_445 rfl (fun _ => rfl) ?_
    refine Rg.getf 449 F_Mo_init_446 rfl rF_26_45 (gM hp) rfl ?_
    refine Rg.step 450 F_Mo_init_449 rfl (fun _ => rfl) ?_
    refine Rg.lcn (n := 1) 451 F_Mo_init_450 rfl rfl ?_
    refine Rg.lst 452 F_Mo_init_451 rfl (gR_wantD hp) (by decide) (sR_wantD hp) (by omega) (by decide) ?_
    rw [mix_up (f := (fun _ => (1 : Int)))]
    refine Rg.inc 455 F_Mo_init_452 rfl rfl (by decide) ?_
    refine Rg.step 425 F_Mo_init_455 rfl (fun _ => rfl) ?_
    exact Rg.weak (ih (k + 1) (by omega) (by omega)) (by simp [lput1, lput2, Value.category, fi0, fi1, fi2, fi3] <;> first | rfl | exact ⟨rfl, rfl⟩) (by simp [lput1, lput2, Value.category, fi0, fi1, fi2, fi3] <;> first | rfl | exact ⟨rfl, rfl⟩)
theorem c_Mo_init {d : Nat} (hp : pre.length = 168) : Cg false d m_Mo_init [.ref 168] (CM pre 10 [.int 0, .long 0, .long 0, .long 0, .long 0, .long 0, .long 0, .null, .null, .null, .null, .null, .null, .null, .int 0, .null, .null, .null, .null, .null, .null, .null, .null, .null, .null, .null, .null, .null, .null, .null, .int 0, .null, .null, .null, .null, .null, .int 0, .null, .int 0, .null, .int 0, .null, .null, .long 0, .null, .null, .null, .null, .null, .null, .int 0, .int 0, .int 0, .int 0, .null, .null, .null, .long 0, .long 0, .null, .null, .null, .null, .null, .null, .null, .null, .null] []) (.inl none) (MR pre 0 0 1 0 1 1 1000 (fun _ => False) (fun _ => 0) (fun _ => (1 : Int)) (fun _ => (-1 : Int)) (fun _ => (-1 : Int)) (fun _ => 0) (fun _ => (1 : Int)) 0 (fun _ => 0) (fun _ => 0) (fun _ => 0) (fun _ => 0) (fun _ => 0) (fun _ => 0) (fun _ => 0) (fun _ => 0) (fun _ => 0) (fun _ => 0) (fun _ => 0) (fun _ => 0) (fun _ => 0) (fun _ => 0) (fun _ => 0) 0 (fun _ => 0) (fun _ => 0) (fun _ => 0) (fun _ => 0) (fun _ => 0) 0 (fun _ => 0) 0 (fun _ => 0) 0 (fun _ => 0) (fun _ => 0) 0 (fun _ => False) (fun _ => 0) (fun _ => 0) (fun _ => False) (fun _ => 0) (fun _ => 0) 0 0 0 (-1) (fun _ => False) (fun _ => 0) (fun _ => 0) 0 0 (fun _ => 0) (fun _ => 0) (fun _ => False) (fun _ => False) (fun _ => 0) (fun _ => 0) (fun _ => 0) (fun _ => 0) (fun _ => 0) []) := by
  refine Cg.of (Nat.le_of_ble_eq_true rfl) ?_
  change Rg _ _ _ _ 0 [(0, .ref 168)] [] _ _ _
  refine Rg.step 1 F_Mo_init_0 rfl (fun _ => rfl) ?_
  refine Rg.step 4 F_Mo_init_1 (by dsimp only [one]; rw [show rX (mH m_Mo_init) 1 = some 0 from rX_26_1]; rfl) (fun _ => rfl) ?_
  refine Rg.step 5 F_Mo_init_4 rfl (fun _ => rfl) ?_
  refine Rg.lcn (n := 1) 6 F_Mo_init_5 rfl rfl ?_
  refine Rg.put 9 F_Mo_init_6 rfl rF_26_7 (CM_get hp) (by decide) (Nat.le_of_ble_eq_true rfl) (Or.inl rfl) rfl (CM_put hp (fs1 := [.int 0, .long 0, .long (lI 1), .long 0, .long 0, .long 0, .long 0, .null, .null, .null, .null, .null, .null, .null, .int 0, .null, .null, .null, .null, .null, .null, .null, .null, .null, .null, .null, .null, .null, .null, .null, .int 0, .null, .null, .null, .null, .null, .int 0, .null, .int 0, .null, .int 0, .null, .null, .long 0, .null, .null, .null, .null, .null, .null, .int 0, .int 0, .int 0, .int 0, .null, .null, .null, .long 0, .long 0, .null, .null, .null, .null, .null, .null, .null, .null, .null]) rfl) ?_
  refine Rg.step 10 F_Mo_init_9 rfl (fun _ => rfl) ?_
  refine Rg.lcn (n := 1) 11 F_Mo_init_10 rfl rfl ?_
  refine Rg.put 14 F_Mo_init_11 rfl rF_26_13 (CM_get hp) (by decide) (Nat.le_of_ble_eq_true rfl) (Or.inl rfl) rfl (CM_put hp (fs1 := [.int 0, .long 0, .long (lI 1), .long 0, .long (lI 1), .long 0, .long 0, .null, .null, .null, .null, .null, .null, .null, .int 0, .null, .null, .null, .null, .null, .null, .null, .null, .null, .null, .null, .null, .null, .null, .null, .int 0, .null, .null, .null, .null, .null, .int 0, .null, .int 0, .null, .int 0, .null, .null, .long 0, .null, .null, .null, .null, .null, .null, .int 0, .int 0, .int 0, .int 0, .null, .null, .null, .long 0, .long 0, .null, .null, .null, .null, .null, .null, .null, .null, .null]) rfl) ?_
  refine Rg.step 15 F_Mo_init_14 rfl (fun _ => rfl) ?_
  refine Rg.lcn (n := 1) 16 F_Mo_init_15 rfl rfl ?_
  refine Rg.put 19 F_Mo_init_16 rfl rF_26_16 (CM_get hp) (by decide) (Nat.le_of_ble_eq_true rfl) (Or.inl rfl) rfl (CM_put hp (fs1 := [.int 0, .long 0, .long (lI 1), .long 0, .long (lI 1), .long (lI 1), .long 0, .null, .null, .null, .null, .null, .null, .null, .int 0, .null, .null, .null, .null, .null, .null, .null, .null, .null, .null, .null, .null, .null, .null, .null, .int 0, .null, .null, .null, .null, .null, .int 0, .null, .int 0, .null, .int 0, .null, .null, .long 0, .null, .null, .null, .null, .null, .null, .int 0, .int 0, .int 0, .int 0, .null, .null, .null, .long 0, .long 0, .null, .null, .null, .null, .null, .null, .null, .null, .null]) rfl) ?_
  refine Rg.step 20 F_Mo_init_19 rfl (fun _ => rfl) ?_
  refine Rg.ldc2 (n := 1000) 23 F_Mo_init_20 rfl rJ_26_19 rfl ?_
  refine Rg.put 26 F_Mo_init_23 rfl rF_26_21 (CM_get hp) (by decide) (Nat.le_of_ble_eq_true rfl) (Or.inl rfl) rfl (CM_put hp (fs1 := [.int 0, .long 0, .long (lI 1), .long 0, .long (lI 1), .long (lI 1), .long (lI 1000), .null, .null, .null, .null, .null, .null, .null, .int 0, .null, .null, .null, .null, .null, .null, .null, .null, .null, .null, .null, .null, .null, .null, .null, .int 0, .null, .null, .null, .null, .null, .int 0, .null, .int 0, .null, .int 0, .null, .null, .long 0, .null, .null, .null, .null, .null, .null, .int 0, .int 0, .int 0, .int 0, .null, .null, .null, .long 0, .long 0, .null, .null, .null, .null, .null, .null, .null, .null, .null]) rfl) ?_
  refine Rg.step 27 F_Mo_init_26 rfl (fun _ => rfl) ?_
  refine Rg.bip 29 F_Mo_init_27 rfl rfl ?_
  refine Rg.newC 31 F_Mo_init_29 rfl rfl (by decide) (by decide) hp (nwZ 16) (a := 169) rfl ?_
  refine Rg.put 34 F_Mo_init_31 rfl rF_26_24 (CM_get hp) (by decide) (Nat.le_of_ble_eq_true rfl) (Or.inr (Or.inr ⟨rfl, rfl⟩)) rfl (CM_put hp (fs1 := [.int 0, .long 0, .long (lI 1), .long 0, .long (lI 1), .long (lI 1), .long (lI 1000), .ref 169, .null, .null, .null, .null, .null, .null, .int 0, .null, .null, .null, .null, .null, .null, .null, .null, .null, .null, .null, .null, .null, .null, .null, .int 0, .null, .null, .null, .null, .null, .int 0, .null, .int 0, .null, .int 0, .null, .null, .long 0, .null, .null, .null, .null, .null, .null, .int 0, .int 0, .int 0, .int 0, .null, .null, .null, .long 0, .long 0, .null, .null, .null, .null, .null, .null, .null, .null, .null]) rfl) ?_
  refine Rg.step 35 F_Mo_init_34 rfl (fun _ => rfl) ?_
  refine Rg.bip 37 F_Mo_init_35 rfl rfl ?_
  refine Rg.newC 39 F_Mo_init_37 rfl rfl (by decide) (by decide) hp (nwL 8) (a := 170) rfl ?_
  refine Rg.put 42 F_Mo_init_39 rfl rF_26_28 (CM_get hp) (by decide) (Nat.le_of_ble_eq_true rfl) (Or.inr (Or.inr ⟨rfl, rfl⟩)) rfl (CM_put hp (fs1 := [.int 0, .long 0, .long (lI 1), .long 0, .long (lI 1), .long (lI 1), .long (lI 1000), .ref 169, .ref 170, .null, .null, .null, .null, .null, .int 0, .null, .null, .null, .null, .null, .null, .null, .null, .null, .null, .null, .null, .null, .null, .null, .int 0, .null, .null, .null, .null, .null, .int 0, .null, .int 0, .null, .int 0, .null, .null, .long 0, .null, .null, .null, .null, .null, .null, .int 0, .int 0, .int 0, .int 0, .null, .null, .null, .long 0, .long 0, .null, .null, .null, .null, .null, .null, .null, .null, .null]) rfl) ?_
  refine Rg.step 43 F_Mo_init_42 rfl (fun _ => rfl) ?_
  refine Rg.bip 45 F_Mo_init_43 rfl rfl ?_
  refine Rg.newC 47 F_Mo_init_45 rfl rfl (by decide) (by decide) hp (nwL 8) (a := 171) rfl ?_
  refine Rg.put 50 F_Mo_init_47 rfl rF_26_32 (CM_get hp) (by decide) (Nat.le_of_ble_eq_true rfl) (Or.inr (Or.inr ⟨rfl, rfl⟩)) rfl (CM_put hp (fs1 := [.int 0, .long 0, .long (lI 1), .long 0, .long (lI 1), .long (lI 1), .long (lI 1000), .ref 169, .ref 170, .ref 171, .null, .null, .null, .null, .int 0, .null, .null, .null, .null, .null, .null, .null, .null, .null, .null, .null, .null, .null, .null, .null, .int 0, .null, .null, .null, .null, .null, .int 0, .null, .int 0, .null, .int 0, .null, .null, .long 0, .null, .null, .null, .null, .null, .null, .int 0, .int 0, .int 0, .int 0, .null, .null, .null, .long 0, .long 0, .null, .null, .null, .null, .null, .null, .null, .null, .null]) rfl) ?_
  refine Rg.step 51 F_Mo_init_50 rfl (fun _ => rfl) ?_
  refine Rg.bip 53 F_Mo_init_51 rfl rfl ?_
  refine Rg.newC 55 F_Mo_init_53 rfl rfl (by decide) (by decide) hp (nwI 16) (a := 172) rfl ?_
  refine Rg.put 58 F_Mo_init_55 rfl rF_26_35 (CM_get hp) (by decide) (Nat.le_of_ble_eq_true rfl) (Or.inr (Or.inr ⟨rfl, rfl⟩)) rfl (CM_put hp (fs1 := [.int 0, .long 0, .long (lI 1), .long 0, .long (lI 1), .long (lI 1), .long (lI 1000), .ref 169, .ref 170, .ref 171, .ref 172, .null, .null, .null, .int 0, .null, .null, .null, .null, .null, .null, .null, .null, .null, .null, .null, .null, .null, .null, .null, .int 0, .null, .null, .null, .null, .null, .int 0, .null, .int 0, .null, .int 0, .null, .null, .long 0, .null, .null, .null, .null, .null, .null, .int 0, .int 0, .int 0, .int 0, .null, .null, .null, .long 0, .long 0, .null, .null, .null, .null, .null, .null, .null, .null, .null]) rfl) ?_
  refine Rg.step 59 F_Mo_init_58 rfl (fun _ => rfl) ?_
  refine Rg.bip 61 F_Mo_init_59 rfl rfl ?_
  refine Rg.newC 63 F_Mo_init_61 rfl rfl (by decide) (by decide) hp (nwI 8) (a := 173) rfl ?_
  refine Rg.put 66 F_Mo_init_63 rfl rF_26_39 (CM_get hp) (by decide) (Nat.le_of_ble_eq_true rfl) (Or.inr (Or.inr ⟨rfl, rfl⟩)) rfl (CM_put hp (fs1 := [.int 0, .long 0, .long (lI 1), .long 0, .long (lI 1), .long (lI 1), .long (lI 1000), .ref 169, .ref 170, .ref 171, .ref 172, .ref 173, .null, .null, .int 0, .null, .null, .null, .null, .null, .null, .null, .null, .null, .null, .null, .null, .null, .null, .null, .int 0, .null, .null, .null, .null, .null, .int 0, .null, .int 0, .null, .int 0, .null, .null, .long 0, .null, .null, .null, .null, .null, .null, .int 0, .int 0, .int 0, .int 0, .null, .null, .null, .long 0, .long 0, .null, .null, .null, .null, .null, .null, .null, .null, .null]) rfl) ?_
  refine Rg.step 67 F_Mo_init_66 rfl (fun _ => rfl) ?_
  refine Rg.bip 69 F_Mo_init_67 rfl rfl ?_
  refine Rg.newC 71 F_Mo_init_69 rfl rfl (by decide) (by decide) hp (nwL 8) (a := 174) rfl ?_
  refine Rg.put 74 F_Mo_init_71 rfl rF_26_42 (CM_get hp) (by decide) (Nat.le_of_ble_eq_true rfl) (Or.inr (Or.inr ⟨rfl, rfl⟩)) rfl (CM_put hp (fs1 := [.int 0, .long 0, .long (lI 1), .long 0, .long (lI 1), .long (lI 1), .long (lI 1000), .ref 169, .ref 170, .ref 171, .ref 172, .ref 173, .ref 174, .null, .int 0, .null, .null, .null, .null, .null, .null, .null, .null, .null, .null, .null, .null, .null, .null, .null, .int 0, .null, .null, .null, .null, .null, .int 0, .null, .int 0, .null, .int 0, .null, .null, .long 0, .null, .null, .null, .null, .null, .null, .int 0, .int 0, .int 0, .int 0, .null, .null, .null, .long 0, .long 0, .null, .null, .null, .null, .null, .null, .null, .null, .null]) rfl) ?_
  refine Rg.step 75 F_Mo_init_74 rfl (fun _ => rfl) ?_
  refine Rg.bip 77 F_Mo_init_75 rfl rfl ?_
  refine Rg.newC 79 F_Mo_init_77 rfl rfl (by decide) (by decide) hp (nwL 8) (a := 175) rfl ?_
  refine Rg.put 82 F_Mo_init_79 rfl rF_26_45 (CM_get hp) (by decide) (Nat.le_of_ble_eq_true rfl) (Or.inr (Or.inr ⟨rfl, rfl⟩)) rfl (CM_put hp (fs1 := [.int 0, .long 0, .long (lI 1), .long 0, .long (lI 1), .long (lI 1), .long (lI 1000), .ref 169, .ref 170, .ref 171, .ref 172, .ref 173, .ref 174, .ref 175, .int 0, .null, .null, .null, .null, .null, .null, .null, .null, .null, .null, .null, .null, .null, .null, .null, .int 0, .null, .null, .null, .null, .null, .int 0, .null, .int 0, .null, .int 0, .null, .null, .long 0, .null, .null, .null, .null, .null, .null, .int 0, .int 0, .int 0, .int 0, .null, .null, .null, .long 0, .long 0, .null, .null, .null, .null, .null, .null, .null, .null, .null]) rfl) ?_
  refine Rg.step 83 F_Mo_init_82 rfl (fun _ => rfl) ?_
  refine Rg.bip 85 F_Mo_init_83 rfl rfl ?_
  refine Rg.newC 87 F_Mo_init_85 rfl rfl (by decide) (by decide) hp (nwI 12) (a := 176) rfl ?_
  refine Rg.put 90 F_Mo_init_87 rfl rF_26_48 (CM_get hp) (by decide) (Nat.le_of_ble_eq_true rfl) (Or.inr (Or.inr ⟨rfl, rfl⟩)) rfl (CM_put hp (fs1 := [.int 0, .long 0, .long (lI 1), .long 0, .long (lI 1), .long (lI 1), .long (lI 1000), .ref 169, .ref 170, .ref 171, .ref 172, .ref 173, .ref 174, .ref 175, .int 0, .ref 176, .null, .null, .null, .null, .null, .null, .null, .null, .null, .null, .null, .null, .null, .null, .int 0, .null, .null, .null, .null, .null, .int 0, .null, .int 0, .null, .int 0, .null, .null, .long 0, .null, .null, .null, .null, .null, .null, .int 0, .int 0, .int 0, .int 0, .null, .null, .null, .long 0, .long 0, .null, .null, .null, .null, .null, .null, .null, .null, .null]) rfl) ?_
  refine Rg.step 91 F_Mo_init_90 rfl (fun _ => rfl) ?_
  refine Rg.bip 93 F_Mo_init_91 rfl rfl ?_
  refine Rg.newC 95 F_Mo_init_93 rfl rfl (by decide) (by decide) hp (nwI 96) (a := 177) rfl ?_
  refine Rg.put 98 F_Mo_init_95 rfl rF_26_51 (CM_get hp) (by decide) (Nat.le_of_ble_eq_true rfl) (Or.inr (Or.inr ⟨rfl, rfl⟩)) rfl (CM_put hp (fs1 := [.int 0, .long 0, .long (lI 1), .long 0, .long (lI 1), .long (lI 1), .long (lI 1000), .ref 169, .ref 170, .ref 171, .ref 172, .ref 173, .ref 174, .ref 175, .int 0, .ref 176, .ref 177, .null, .null, .null, .null, .null, .null, .null, .null, .null, .null, .null, .null, .null, .int 0, .null, .null, .null, .null, .null, .int 0, .null, .int 0, .null, .int 0, .null, .null, .long 0, .null, .null, .null, .null, .null, .null, .int 0, .int 0, .int 0, .int 0, .null, .null, .null, .long 0, .long 0, .null, .null, .null, .null, .null, .null, .null, .null, .null]) rfl) ?_
  refine Rg.step 99 F_Mo_init_98 rfl (fun _ => rfl) ?_
  refine Rg.bip 101 F_Mo_init_99 rfl rfl ?_
  refine Rg.newC 103 F_Mo_init_101 rfl rfl (by decide) (by decide) hp (nwI 96) (a := 178) rfl ?_
  refine Rg.put 106 F_Mo_init_103 rfl rF_26_54 (CM_get hp) (by decide) (Nat.le_of_ble_eq_true rfl) (Or.inr (Or.inr ⟨rfl, rfl⟩)) rfl (CM_put hp (fs1 := [.int 0, .long 0, .long (lI 1), .long 0, .long (lI 1), .long (lI 1), .long (lI 1000), .ref 169, .ref 170, .ref 171, .ref 172, .ref 173, .ref 174, .ref 175, .int 0, .ref 176, .ref 177, .ref 178, .null, .null, .null, .null, .null, .null, .null, .null, .null, .null, .null, .null, .int 0, .null, .null, .null, .null, .null, .int 0, .null, .int 0, .null, .int 0, .null, .null, .long 0, .null, .null, .null, .null, .null, .null, .int 0, .int 0, .int 0, .int 0, .null, .null, .null, .long 0, .long 0, .null, .null, .null, .null, .null, .null, .null, .null, .null]) rfl) ?_
  refine Rg.step 107 F_Mo_init_106 rfl (fun _ => rfl) ?_
  refine Rg.bip 109 F_Mo_init_107 rfl rfl ?_
  refine Rg.newC 111 F_Mo_init_109 rfl rfl (by decide) (by decide) hp (nwI 96) (a := 179) rfl ?_
  refine Rg.put 114 F_Mo_init_111 rfl rF_26_57 (CM_get hp) (by decide) (Nat.le_of_ble_eq_true rfl) (Or.inr (Or.inr ⟨rfl, rfl⟩)) rfl (CM_put hp (fs1 := [.int 0, .long 0, .long (lI 1), .long 0, .long (lI 1), .long (lI 1), .long (lI 1000), .ref 169, .ref 170, .ref 171, .ref 172, .ref 173, .ref 174, .ref 175, .int 0, .ref 176, .ref 177, .ref 178, .ref 179, .null, .null, .null, .null, .null, .null, .null, .null, .null, .null, .null, .int 0, .null, .null, .null, .null, .null, .int 0, .null, .int 0, .null, .int 0, .null, .null, .long 0, .null, .null, .null, .null, .null, .null, .int 0, .int 0, .int 0, .int 0, .null, .null, .null, .long 0, .long 0, .null, .null, .null, .null, .null, .null, .null, .null, .null]) rfl) ?_
  refine Rg.step 115 F_Mo_init_114 rfl (fun _ => rfl) ?_
  refine Rg.bip 117 F_Mo_init_115 rfl rfl ?_
  refine Rg.newC 119 F_Mo_init_117 rfl rfl (by decide) (by decide) hp (nwL 96) (a := 180) rfl ?_
  refine Rg.put 122 F_Mo_init_119 rfl rF_26_60 (CM_get hp) (by decide) (Nat.le_of_ble_eq_true rfl) (Or.inr (Or.inr ⟨rfl, rfl⟩)) rfl (CM_put hp (fs1 := [.int 0, .long 0, .long (lI 1), .long 0, .long (lI 1), .long (lI 1), .long (lI 1000), .ref 169, .ref 170, .ref 171, .ref 172, .ref 173, .ref 174, .ref 175, .int 0, .ref 176, .ref 177, .ref 178, .ref 179, .ref 180, .null, .null, .null, .null, .null, .null, .null, .null, .null, .null, .int 0, .null, .null, .null, .null, .null, .int 0, .null, .int 0, .null, .int 0, .null, .null, .long 0, .null, .null, .null, .null, .null, .null, .int 0, .int 0, .int 0, .int 0, .null, .null, .null, .long 0, .long 0, .null, .null, .null, .null, .null, .null, .null, .null, .null]) rfl) ?_
  refine Rg.step 123 F_Mo_init_122 rfl (fun _ => rfl) ?_
  refine Rg.bip 125 F_Mo_init_123 rfl rfl ?_
  refine Rg.newC 127 F_Mo_init_125 rfl rfl (by decide) (by decide) hp (nwL 96) (a := 181) rfl ?_
  refine Rg.put 130 F_Mo_init_127 rfl rF_26_63 (CM_get hp) (by decide) (Nat.le_of_ble_eq_true rfl) (Or.inr (Or.inr ⟨rfl, rfl⟩)) rfl (CM_put hp (fs1 := [.int 0, .long 0, .long (lI 1), .long 0, .long (lI 1), .long (lI 1), .long (lI 1000), .ref 169, .ref 170, .ref 171, .ref 172, .ref 173, .ref 174, .ref 175, .int 0, .ref 176, .ref 177, .ref 178, .ref 179, .ref 180, .ref 181, .null, .null, .null, .null, .null, .null, .null, .null, .null, .int 0, .null, .null, .null, .null, .null, .int 0, .null, .int 0, .null, .int 0, .null, .null, .long 0, .null, .null, .null, .null, .null, .null, .int 0, .int 0, .int 0, .int 0, .null, .null, .null, .long 0, .long 0, .null, .null, .null, .null, .null, .null, .null, .null, .null]) rfl) ?_
  refine Rg.step 131 F_Mo_init_130 rfl (fun _ => rfl) ?_
  refine Rg.bip 133 F_Mo_init_131 rfl rfl ?_
  refine Rg.newC 135 F_Mo_init_133 rfl rfl (by decide) (by decide) hp (nwI 12) (a := 182) rfl ?_
  refine Rg.put 138 F_Mo_init_135 rfl rF_26_66 (CM_get hp) (by decide) (Nat.le_of_ble_eq_true rfl) (Or.inr (Or.inr ⟨rfl, rfl⟩)) rfl (CM_put hp (fs1 := [.int 0, .long 0, .long (lI 1), .long 0, .long (lI 1), .long (lI 1), .long (lI 1000), .ref 169, .ref 170, .ref 171, .ref 172, .ref 173, .ref 174, .ref 175, .int 0, .ref 176, .ref 177, .ref 178, .ref 179, .ref 180, .ref 181, .ref 182, .null, .null, .null, .null, .null, .null, .null, .null, .int 0, .null, .null, .null, .null, .null, .int 0, .null, .int 0, .null, .int 0, .null, .null, .long 0, .null, .null, .null, .null, .null, .null, .int 0, .int 0, .int 0, .int 0, .null, .null, .null, .long 0, .long 0, .null, .null, .null, .null, .null, .null, .null, .null, .null]) rfl) ?_
  refine Rg.step 139 F_Mo_init_138 rfl (fun _ => rfl) ?_
  refine Rg.bip 141 F_Mo_init_139 rfl rfl ?_
  refine Rg.newC 143 F_Mo_init_141 rfl rfl (by decide) (by decide) hp (nwI 72) (a := 183) rfl ?_
  refine Rg.put 146 F_Mo_init_143 rfl rF_26_69 (CM_get hp) (by decide) (Nat.le_of_ble_eq_true rfl) (Or.inr (Or.inr ⟨rfl, rfl⟩)) rfl (CM_put hp (fs1 := [.int 0, .long 0, .long (lI 1), .long 0, .long (lI 1), .long (lI 1), .long (lI 1000), .ref 169, .ref 170, .ref 171, .ref 172, .ref 173, .ref 174, .ref 175, .int 0, .ref 176, .ref 177, .ref 178, .ref 179, .ref 180, .ref 181, .ref 182, .ref 183, .null, .null, .null, .null, .null, .null, .null, .int 0, .null, .null, .null, .null, .null, .int 0, .null, .int 0, .null, .int 0, .null, .null, .long 0, .null, .null, .null, .null, .null, .null, .int 0, .int 0, .int 0, .int 0, .null, .null, .null, .long 0, .long 0, .null, .null, .null, .null, .null, .null, .null, .null, .null]) rfl) ?_
  refine Rg.step 147 F_Mo_init_146 rfl (fun _ => rfl) ?_
  refine Rg.bip 149 F_Mo_init_147 rfl rfl ?_
  refine Rg.newC 151 F_Mo_init_149 rfl rfl (by decide) (by decide) hp (nwI 72) (a := 184) rfl ?_
  refine Rg.put 154 F_Mo_init_151 rfl rF_26_72 (CM_get hp) (by decide) (Nat.le_of_ble_eq_true rfl) (Or.inr (Or.inr ⟨rfl, rfl⟩)) rfl (CM_put hp (fs1 := [.int 0, .long 0, .long (lI 1), .long 0, .long (lI 1), .long (lI 1), .long (lI 1000), .ref 169, .ref 170, .ref 171, .ref 172, .ref 173, .ref 174, .ref 175, .int 0, .ref 176, .ref 177, .ref 178, .ref 179, .ref 180, .ref 181, .ref 182, .ref 183, .ref 184, .null, .null, .null, .null, .null, .null, .int 0, .null, .null, .null, .null, .null, .int 0, .null, .int 0, .null, .int 0, .null, .null, .long 0, .null, .null, .null, .null, .null, .null, .int 0, .int 0, .int 0, .int 0, .null, .null, .null, .long 0, .long 0, .null, .null, .null, .null, .null, .null, .null, .null, .null]) rfl) ?_
  refine Rg.step 155 F_Mo_init_154 rfl (fun _ => rfl) ?_
  refine Rg.bip 157 F_Mo_init_155 rfl rfl ?_
  refine Rg.newC 159 F_Mo_init_157 rfl rfl (by decide) (by decide) hp (nwI 72) (a := 185) rfl ?_
  refine Rg.put 162 F_Mo_init_159 rfl rF_26_75 (CM_get hp) (by decide) (Nat.le_of_ble_eq_true rfl) (Or.inr (Or.inr ⟨rfl, rfl⟩)) rfl (CM_put hp (fs1 := [.int 0, .long 0, .long (lI 1), .long 0, .long (lI 1), .long (lI 1), .long (lI 1000), .ref 169, .ref 170, .ref 171, .ref 172, .ref 173, .ref 174, .ref 175, .int 0, .ref 176, .ref 177, .ref 178, .ref 179, .ref 180, .ref 181, .ref 182, .ref 183, .ref 184, .ref 185, .null, .null, .null, .null, .null, .int 0, .null, .null, .null, .null, .null, .int 0, .null, .int 0, .null, .int 0, .null, .null, .long 0, .null, .null, .null, .null, .null, .null, .int 0, .int 0, .int 0, .int 0, .null, .null, .null, .long 0, .long 0, .null, .null, .null, .null, .null, .null, .null, .null, .null]) rfl) ?_
  refine Rg.step 163 F_Mo_init_162 rfl (fun _ => rfl) ?_
  refine Rg.bip 165 F_Mo_init_163 rfl rfl ?_
  refine Rg.newC 167 F_Mo_init_165 rfl rfl (by decide) (by decide) hp (nwL 72) (a := 186) rfl ?_
  refine Rg.put 170 F_Mo_init_167 rfl rF_26_78 (CM_get hp) (by decide) (Nat.le_of_ble_eq_true rfl) (Or.inr (Or.inr ⟨rfl, rfl⟩)) rfl (CM_put hp (fs1 := [.int 0, .long 0, .long (lI 1), .long 0, .long (lI 1), .long (lI 1), .long (lI 1000), .ref 169, .ref 170, .ref 171, .ref 172, .ref 173, .ref 174, .ref 175, .int 0, .ref 176, .ref 177, .ref 178, .ref 179, .ref 180, .ref 181, .ref 182, .ref 183, .ref 184, .ref 185, .ref 186, .null, .null, .null, .null, .int 0, .null, .null, .null, .null, .null, .int 0, .null, .int 0, .null, .int 0, .null, .null, .long 0, .null, .null, .null, .null, .null, .null, .int 0, .int 0, .int 0, .int 0, .null, .null, .null, .long 0, .long 0, .null, .null, .null, .null, .null, .null, .null, .null, .null]) rfl) ?_
  refine Rg.step 171 F_Mo_init_170 rfl (fun _ => rfl) ?_
  refine Rg.bip 173 F_Mo_init_171 rfl rfl ?_
  refine Rg.newC 175 F_Mo_init_173 rfl rfl (by decide) (by decide) hp (nwL 72) (a := 187) rfl ?_
  refine Rg.put 178 F_Mo_init_175 rfl rF_26_81 (CM_get hp) (by decide) (Nat.le_of_ble_eq_true rfl) (Or.inr (Or.inr ⟨rfl, rfl⟩)) rfl (CM_put hp (fs1 := [.int 0, .long 0, .long (lI 1), .long 0, .long (lI 1), .long (lI 1), .long (lI 1000), .ref 169, .ref 170, .ref 171, .ref 172, .ref 173, .ref 174, .ref 175, .int 0, .ref 176, .ref 177, .ref 178, .ref 179, .ref 180, .ref 181, .ref 182, .ref 183, .ref 184, .ref 185, .ref 186, .ref 187, .null, .null, .null, .int 0, .null, .null, .null, .null, .null, .int 0, .null, .int 0, .null, .int 0, .null, .null, .long 0, .null, .null, .null, .null, .null, .null, .int 0, .int 0, .int 0, .int 0, .null, .null, .null, .long 0, .long 0, .null, .null, .null, .null, .null, .null, .null, .null, .null]) rfl) ?_
  refine Rg.step 179 F_Mo_init_178 rfl (fun _ => rfl) ?_
  refine Rg.bip 181 F_Mo_init_179 rfl rfl ?_
  refine Rg.newC 183 F_Mo_init_181 rfl rfl (by decide) (by decide) hp (nwI 24) (a := 188) rfl ?_
  refine Rg.put 186 F_Mo_init_183 rfl rF_26_84 (CM_get hp) (by decide) (Nat.le_of_ble_eq_true rfl) (Or.inr (Or.inr ⟨rfl, rfl⟩)) rfl (CM_put hp (fs1 := [.int 0, .long 0, .long (lI 1), .long 0, .long (lI 1), .long (lI 1), .long (lI 1000), .ref 169, .ref 170, .ref 171, .ref 172, .ref 173, .ref 174, .ref 175, .int 0, .ref 176, .ref 177, .ref 178, .ref 179, .ref 180, .ref 181, .ref 182, .ref 183, .ref 184, .ref 185, .ref 186, .ref 187, .ref 188, .null, .null, .int 0, .null, .null, .null, .null, .null, .int 0, .null, .int 0, .null, .int 0, .null, .null, .long 0, .null, .null, .null, .null, .null, .null, .int 0, .int 0, .int 0, .int 0, .null, .null, .null, .long 0, .long 0, .null, .null, .null, .null, .null, .null, .null, .null, .null]) rfl) ?_
  refine Rg.step 187 F_Mo_init_186 rfl (fun _ => rfl) ?_
  refine Rg.bip 189 F_Mo_init_187 rfl rfl ?_
  refine Rg.newC 191 F_Mo_init_189 rfl rfl (by decide) (by decide) hp (nwL 24) (a := 189) rfl ?_
  refine Rg.put 194 F_Mo_init_191 rfl rF_26_87 (CM_get hp) (by decide) (Nat.le_of_ble_eq_true rfl) (Or.inr (Or.inr ⟨rfl, rfl⟩)) rfl (CM_put hp (fs1 := [.int 0, .long 0, .long (lI 1), .long 0, .long (lI 1), .long (lI 1), .long (lI 1000), .ref 169, .ref 170, .ref 171, .ref 172, .ref 173, .ref 174, .ref 175, .int 0, .ref 176, .ref 177, .ref 178, .ref 179, .ref 180, .ref 181, .ref 182, .ref 183, .ref 184, .ref 185, .ref 186, .ref 187, .ref 188, .ref 189, .null, .int 0, .null, .null, .null, .null, .null, .int 0, .null, .int 0, .null, .int 0, .null, .null, .long 0, .null, .null, .null, .null, .null, .null, .int 0, .int 0, .int 0, .int 0, .null, .null, .null, .long 0, .long 0, .null, .null, .null, .null, .null, .null, .null, .null, .null]) rfl) ?_
  refine Rg.step 195 F_Mo_init_194 rfl (fun _ => rfl) ?_
  refine Rg.bip 197 F_Mo_init_195 rfl rfl ?_
  refine Rg.newC 199 F_Mo_init_197 rfl rfl (by decide) (by decide) hp (nwL 24) (a := 190) rfl ?_
  refine Rg.put 202 F_Mo_init_199 rfl rF_26_90 (CM_get hp) (by decide) (Nat.le_of_ble_eq_true rfl) (Or.inr (Or.inr ⟨rfl, rfl⟩)) rfl (CM_put hp (fs1 := [.int 0, .long 0, .long (lI 1), .long 0, .long (lI 1), .long (lI 1), .long (lI 1000), .ref 169, .ref 170, .ref 171, .ref 172, .ref 173, .ref 174, .ref 175, .int 0, .ref 176, .ref 177, .ref 178, .ref 179, .ref 180, .ref 181, .ref 182, .ref 183, .ref 184, .ref 185, .ref 186, .ref 187, .ref 188, .ref 189, .ref 190, .int 0, .null, .null, .null, .null, .null, .int 0, .null, .int 0, .null, .int 0, .null, .null, .long 0, .null, .null, .null, .null, .null, .null, .int 0, .int 0, .int 0, .int 0, .null, .null, .null, .long 0, .long 0, .null, .null, .null, .null, .null, .null, .null, .null, .null]) rfl) ?_
  refine Rg.step 203 F_Mo_init_202 rfl (fun _ => rfl) ?_
  refine Rg.bip 205 F_Mo_init_203 rfl rfl ?_
  refine Rg.newC 207 F_Mo_init_205 rfl rfl (by decide) (by decide) hp (nwI 12) (a := 191) rfl ?_
  refine Rg.put 210 F_Mo_init_207 rfl rF_26_93 (CM_get hp) (by decide) (Nat.le_of_ble_eq_true rfl) (Or.inr (Or.inr ⟨rfl, rfl⟩)) rfl (CM_put hp (fs1 := [.int 0, .long 0, .long (lI 1), .long 0, .long (lI 1), .long (lI 1), .long (lI 1000), .ref 169, .ref 170, .ref 171, .ref 172, .ref 173, .ref 174, .ref 175, .int 0, .ref 176, .ref 177, .ref 178, .ref 179, .ref 180, .ref 181, .ref 182, .ref 183, .ref 184, .ref 185, .ref 186, .ref 187, .ref 188, .ref 189, .ref 190, .int 0, .ref 191, .null, .null, .null, .null, .int 0, .null, .int 0, .null, .int 0, .null, .null, .long 0, .null, .null, .null, .null, .null, .null, .int 0, .int 0, .int 0, .int 0, .null, .null, .null, .long 0, .long 0, .null, .null, .null, .null, .null, .null, .null, .null, .null]) rfl) ?_
  refine Rg.step 211 F_Mo_init_210 rfl (fun _ => rfl) ?_
  refine Rg.bip 213 F_Mo_init_211 rfl rfl ?_
  refine Rg.newC 215 F_Mo_init_213 rfl rfl (by decide) (by decide) hp (nwL 12) (a := 192) rfl ?_
  refine Rg.put 218 F_Mo_init_215 rfl rF_26_96 (CM_get hp) (by decide) (Nat.le_of_ble_eq_true rfl) (Or.inr (Or.inr ⟨rfl, rfl⟩)) rfl (CM_put hp (fs1 := [.int 0, .long 0, .long (lI 1), .long 0, .long (lI 1), .long (lI 1), .long (lI 1000), .ref 169, .ref 170, .ref 171, .ref 172, .ref 173, .ref 174, .ref 175, .int 0, .ref 176, .ref 177, .ref 178, .ref 179, .ref 180, .ref 181, .ref 182, .ref 183, .ref 184, .ref 185, .ref 186, .ref 187, .ref 188, .ref 189, .ref 190, .int 0, .ref 191, .ref 192, .null, .null, .null, .int 0, .null, .int 0, .null, .int 0, .null, .null, .long 0, .null, .null, .null, .null, .null, .null, .int 0, .int 0, .int 0, .int 0, .null, .null, .null, .long 0, .long 0, .null, .null, .null, .null, .null, .null, .null, .null, .null]) rfl) ?_
  refine Rg.step 219 F_Mo_init_218 rfl (fun _ => rfl) ?_
  refine Rg.bip 221 F_Mo_init_219 rfl rfl ?_
  refine Rg.newC 223 F_Mo_init_221 rfl rfl (by decide) (by decide) hp (nwL 12) (a := 193) rfl ?_
  refine Rg.put 226 F_Mo_init_223 rfl rF_26_99 (CM_get hp) (by decide) (Nat.le_of_ble_eq_true rfl) (Or.inr (Or.inr ⟨rfl, rfl⟩)) rfl (CM_put hp (fs1 := [.int 0, .long 0, .long (lI 1), .long 0, .long (lI 1), .long (lI 1), .long (lI 1000), .ref 169, .ref 170, .ref 171, .ref 172, .ref 173, .ref 174, .ref 175, .int 0, .ref 176, .ref 177, .ref 178, .ref 179, .ref 180, .ref 181, .ref 182, .ref 183, .ref 184, .ref 185, .ref 186, .ref 187, .ref 188, .ref 189, .ref 190, .int 0, .ref 191, .ref 192, .ref 193, .null, .null, .int 0, .null, .int 0, .null, .int 0, .null, .null, .long 0, .null, .null, .null, .null, .null, .null, .int 0, .int 0, .int 0, .int 0, .null, .null, .null, .long 0, .long 0, .null, .null, .null, .null, .null, .null, .null, .null, .null]) rfl) ?_
  refine Rg.step 227 F_Mo_init_226 rfl (fun _ => rfl) ?_
  refine Rg.bip 229 F_Mo_init_227 rfl rfl ?_
  refine Rg.newC 231 F_Mo_init_229 rfl rfl (by decide) (by decide) hp (nwL 12) (a := 194) rfl ?_
  refine Rg.put 234 F_Mo_init_231 rfl rF_26_102 (CM_get hp) (by decide) (Nat.le_of_ble_eq_true rfl) (Or.inr (Or.inr ⟨rfl, rfl⟩)) rfl (CM_put hp (fs1 := [.int 0, .long 0, .long (lI 1), .long 0, .long (lI 1), .long (lI 1), .long (lI 1000), .ref 169, .ref 170, .ref 171, .ref 172, .ref 173, .ref 174, .ref 175, .int 0, .ref 176, .ref 177, .ref 178, .ref 179, .ref 180, .ref 181, .ref 182, .ref 183, .ref 184, .ref 185, .ref 186, .ref 187, .ref 188, .ref 189, .ref 190, .int 0, .ref 191, .ref 192, .ref 193, .ref 194, .null, .int 0, .null, .int 0, .null, .int 0, .null, .null, .long 0, .null, .null, .null, .null, .null, .null, .int 0, .int 0, .int 0, .int 0, .null, .null, .null, .long 0, .long 0, .null, .null, .null, .null, .null, .null, .null, .null, .null]) rfl) ?_
  refine Rg.step 235 F_Mo_init_234 rfl (fun _ => rfl) ?_
  refine Rg.bip 237 F_Mo_init_235 rfl rfl ?_
  refine Rg.newC 239 F_Mo_init_237 rfl rfl (by decide) (by decide) hp (nwL 12) (a := 195) rfl ?_
  refine Rg.put 242 F_Mo_init_239 rfl rF_26_105 (CM_get hp) (by decide) (Nat.le_of_ble_eq_true rfl) (Or.inr (Or.inr ⟨rfl, rfl⟩)) rfl (CM_put hp (fs1 := [.int 0, .long 0, .long (lI 1), .long 0, .long (lI 1), .long (lI 1), .long (lI 1000), .ref 169, .ref 170, .ref 171, .ref 172, .ref 173, .ref 174, .ref 175, .int 0, .ref 176, .ref 177, .ref 178, .ref 179, .ref 180, .ref 181, .ref 182, .ref 183, .ref 184, .ref 185, .ref 186, .ref 187, .ref 188, .ref 189, .ref 190, .int 0, .ref 191, .ref 192, .ref 193, .ref 194, .ref 195, .int 0, .null, .int 0, .null, .int 0, .null, .null, .long 0, .null, .null, .null, .null, .null, .null, .int 0, .int 0, .int 0, .int 0, .null, .null, .null, .long 0, .long 0, .null, .null, .null, .null, .null, .null, .null, .null, .null]) rfl) ?_
  refine Rg.step 243 F_Mo_init_242 rfl (fun _ => rfl) ?_
  refine Rg.bip 245 F_Mo_init_243 rfl rfl ?_
  refine Rg.newC 247 F_Mo_init_245 rfl rfl (by decide) (by decide) hp (nwI 24) (a := 196) rfl ?_
  refine Rg.put 250 F_Mo_init_247 rfl rF_26_108 (CM_get hp) (by decide) (Nat.le_of_ble_eq_true rfl) (Or.inr (Or.inr ⟨rfl, rfl⟩)) rfl (CM_put hp (fs1 := [.int 0, .long 0, .long (lI 1), .long 0, .long (lI 1), .long (lI 1), .long (lI 1000), .ref 169, .ref 170, .ref 171, .ref 172, .ref 173, .ref 174, .ref 175, .int 0, .ref 176, .ref 177, .ref 178, .ref 179, .ref 180, .ref 181, .ref 182, .ref 183, .ref 184, .ref 185, .ref 186, .ref 187, .ref 188, .ref 189, .ref 190, .int 0, .ref 191, .ref 192, .ref 193, .ref 194, .ref 195, .int 0, .ref 196, .int 0, .null, .int 0, .null, .null, .long 0, .null, .null, .null, .null, .null, .null, .int 0, .int 0, .int 0, .int 0, .null, .null, .null, .long 0, .long 0, .null, .null, .null, .null, .null, .null, .null, .null, .null]) rfl) ?_
  refine Rg.step 251 F_Mo_init_250 rfl (fun _ => rfl) ?_
  refine Rg.bip 253 F_Mo_init_251 rfl rfl ?_
  refine Rg.newC 255 F_Mo_init_253 rfl rfl (by decide) (by decide) hp (nwI 12) (a := 197) rfl ?_
  refine Rg.put 258 F_Mo_init_255 rfl rF_26_111 (CM_get hp) (by decide) (Nat.le_of_ble_eq_true rfl) (Or.inr (Or.inr ⟨rfl, rfl⟩)) rfl (CM_put hp (fs1 := [.int 0, .long 0, .long (lI 1), .long 0, .long (lI 1), .long (lI 1), .long (lI 1000), .ref 169, .ref 170, .ref 171, .ref 172, .ref 173, .ref 174, .ref 175, .int 0, .ref 176, .ref 177, .ref 178, .ref 179, .ref 180, .ref 181, .ref 182, .ref 183, .ref 184, .ref 185, .ref 186, .ref 187, .ref 188, .ref 189, .ref 190, .int 0, .ref 191, .ref 192, .ref 193, .ref 194, .ref 195, .int 0, .ref 196, .int 0, .ref 197, .int 0, .null, .null, .long 0, .null, .null, .null, .null, .null, .null, .int 0, .int 0, .int 0, .int 0, .null, .null, .null, .long 0, .long 0, .null, .null, .null, .null, .null, .null, .null, .null, .null]) rfl) ?_
  refine Rg.step 259 F_Mo_init_258 rfl (fun _ => rfl) ?_
  refine Rg.bip 261 F_Mo_init_259 rfl rfl ?_
  refine Rg.newC 263 F_Mo_init_261 rfl rfl (by decide) (by decide) hp (nwI 24) (a := 198) rfl ?_
  refine Rg.put 266 F_Mo_init_263 rfl rF_26_114 (CM_get hp) (by decide) (Nat.le_of_ble_eq_true rfl) (Or.inr (Or.inr ⟨rfl, rfl⟩)) rfl (CM_put hp (fs1 := [.int 0, .long 0, .long (lI 1), .long 0, .long (lI 1), .long (lI 1), .long (lI 1000), .ref 169, .ref 170, .ref 171, .ref 172, .ref 173, .ref 174, .ref 175, .int 0, .ref 176, .ref 177, .ref 178, .ref 179, .ref 180, .ref 181, .ref 182, .ref 183, .ref 184, .ref 185, .ref 186, .ref 187, .ref 188, .ref 189, .ref 190, .int 0, .ref 191, .ref 192, .ref 193, .ref 194, .ref 195, .int 0, .ref 196, .int 0, .ref 197, .int 0, .ref 198, .null, .long 0, .null, .null, .null, .null, .null, .null, .int 0, .int 0, .int 0, .int 0, .null, .null, .null, .long 0, .long 0, .null, .null, .null, .null, .null, .null, .null, .null, .null]) rfl) ?_
  refine Rg.step 267 F_Mo_init_266 rfl (fun _ => rfl) ?_
  refine Rg.bip 269 F_Mo_init_267 rfl rfl ?_
  refine Rg.newC 271 F_Mo_init_269 rfl rfl (by decide) (by decide) hp (nwL 24) (a := 199) rfl ?_
  refine Rg.put 274 F_Mo_init_271 rfl rF_26_117 (CM_get hp) (by decide) (Nat.le_of_ble_eq_true rfl) (Or.inr (Or.inr ⟨rfl, rfl⟩)) rfl (CM_put hp (fs1 := [.int 0, .long 0, .long (lI 1), .long 0, .long (lI 1), .long (lI 1), .long (lI 1000), .ref 169, .ref 170, .ref 171, .ref 172, .ref 173, .ref 174, .ref 175, .int 0, .ref 176, .ref 177, .ref 178, .ref 179, .ref 180, .ref 181, .ref 182, .ref 183, .ref 184, .ref 185, .ref 186, .ref 187, .ref 188, .ref 189, .ref 190, .int 0, .ref 191, .ref 192, .ref 193, .ref 194, .ref 195, .int 0, .ref 196, .int 0, .ref 197, .int 0, .ref 198, .ref 199, .long 0, .null, .null, .null, .null, .null, .null, .int 0, .int 0, .int 0, .int 0, .null, .null, .null, .long 0, .long 0, .null, .null, .null, .null, .null, .null, .null, .null, .null]) rfl) ?_
  refine Rg.step 275 F_Mo_init_274 rfl (fun _ => rfl) ?_
  refine Rg.bip 277 F_Mo_init_275 rfl rfl ?_
  refine Rg.newC 279 F_Mo_init_277 rfl rfl (by decide) (by decide) hp (nwZ 16) (a := 200) rfl ?_
  refine Rg.put 282 F_Mo_init_279 rfl rF_26_120 (CM_get hp) (by decide) (Nat.le_of_ble_eq_true rfl) (Or.inr (Or.inr ⟨rfl, rfl⟩)) rfl (CM_put hp (fs1 := [.int 0, .long 0, .long (lI 1), .long 0, .long (lI 1), .long (lI 1), .long (lI 1000), .ref 169, .ref 170, .ref 171, .ref 172, .ref 173, .ref 174, .ref 175, .int 0, .ref 176, .ref 177, .ref 178, .ref 179, .ref 180, .ref 181, .ref 182, .ref 183, .ref 184, .ref 185, .ref 186, .ref 187, .ref 188, .ref 189, .ref 190, .int 0, .ref 191, .ref 192, .ref 193, .ref 194, .ref 195, .int 0, .ref 196, .int 0, .ref 197, .int 0, .ref 198, .ref 199, .long 0, .ref 200, .null, .null, .null, .null, .null, .int 0, .int 0, .int 0, .int 0, .null, .null, .null, .long 0, .long 0, .null, .null, .null, .null, .null, .null, .null, .null, .null]) rfl) ?_
  refine Rg.step 283 F_Mo_init_282 rfl (fun _ => rfl) ?_
  refine Rg.bip 285 F_Mo_init_283 rfl rfl ?_
  refine Rg.newC 287 F_Mo_init_285 rfl rfl (by decide) (by decide) hp (nwL 8) (a := 201) rfl ?_
  refine Rg.put 290 F_Mo_init_287 rfl rF_26_123 (CM_get hp) (by decide) (Nat.le_of_ble_eq_true rfl) (Or.inr (Or.inr ⟨rfl, rfl⟩)) rfl (CM_put hp (fs1 := [.int 0, .long 0, .long (lI 1), .long 0, .long (lI 1), .long (lI 1), .long (lI 1000), .ref 169, .ref 170, .ref 171, .ref 172, .ref 173, .ref 174, .ref 175, .int 0, .ref 176, .ref 177, .ref 178, .ref 179, .ref 180, .ref 181, .ref 182, .ref 183, .ref 184, .ref 185, .ref 186, .ref 187, .ref 188, .ref 189, .ref 190, .int 0, .ref 191, .ref 192, .ref 193, .ref 194, .ref 195, .int 0, .ref 196, .int 0, .ref 197, .int 0, .ref 198, .ref 199, .long 0, .ref 200, .ref 201, .null, .null, .null, .null, .int 0, .int 0, .int 0, .int 0, .null, .null, .null, .long 0, .long 0, .null, .null, .null, .null, .null, .null, .null, .null, .null]) rfl) ?_
  refine Rg.step 291 F_Mo_init_290 rfl (fun _ => rfl) ?_
  refine Rg.bip 293 F_Mo_init_291 rfl rfl ?_
  refine Rg.newC 295 F_Mo_init_293 rfl rfl (by decide) (by decide) hp (nwL 8) (a := 202) rfl ?_
  refine Rg.put 298 F_Mo_init_295 rfl rF_26_126 (CM_get hp) (by decide) (Nat.le_of_ble_eq_true rfl) (Or.inr (Or.inr ⟨rfl, rfl⟩)) rfl (CM_put hp (fs1 := [.int 0, .long 0, .long (lI 1), .long 0, .long (lI 1), .long (lI 1), .long (lI 1000), .ref 169, .ref 170, .ref 171, .ref 172, .ref 173, .ref 174, .ref 175, .int 0, .ref 176, .ref 177, .ref 178, .ref 179, .ref 180, .ref 181, .ref 182, .ref 183, .ref 184, .ref 185, .ref 186, .ref 187, .ref 188, .ref 189, .ref 190, .int 0, .ref 191, .ref 192, .ref 193, .ref 194, .ref 195, .int 0, .ref 196, .int 0, .ref 197, .int 0, .ref 198, .ref 199, .long 0, .ref 200, .ref 201, .ref 202, .null, .null, .null, .int 0, .int 0, .int 0, .int 0, .null, .null, .null, .long 0, .long 0, .null, .null, .null, .null, .null, .null, .null, .null, .null]) rfl) ?_
  refine Rg.step 299 F_Mo_init_298 rfl (fun _ => rfl) ?_
  refine Rg.bip 301 F_Mo_init_299 rfl rfl ?_
  refine Rg.newC 303 F_Mo_init_301 rfl rfl (by decide) (by decide) hp (nwZ 16) (a := 203) rfl ?_
  refine Rg.put 306 F_Mo_init_303 rfl rF_26_129 (CM_get hp) (by decide) (Nat.le_of_ble_eq_true rfl) (Or.inr (Or.inr ⟨rfl, rfl⟩)) rfl (CM_put hp (fs1 := [.int 0, .long 0, .long (lI 1), .long 0, .long (lI 1), .long (lI 1), .long (lI 1000), .ref 169, .ref 170, .ref 171, .ref 172, .ref 173, .ref 174, .ref 175, .int 0, .ref 176, .ref 177, .ref 178, .ref 179, .ref 180, .ref 181, .ref 182, .ref 183, .ref 184, .ref 185, .ref 186, .ref 187, .ref 188, .ref 189, .ref 190, .int 0, .ref 191, .ref 192, .ref 193, .ref 194, .ref 195, .int 0, .ref 196, .int 0, .ref 197, .int 0, .ref 198, .ref 199, .long 0, .ref 200, .ref 201, .ref 202, .ref 203, .null, .null, .int 0, .int 0, .int 0, .int 0, .null, .null, .null, .long 0, .long 0, .null, .null, .null, .null, .null, .null, .null, .null, .null]) rfl) ?_
  refine Rg.step 307 F_Mo_init_306 rfl (fun _ => rfl) ?_
  refine Rg.bip 309 F_Mo_init_307 rfl rfl ?_
  refine Rg.newC 311 F_Mo_init_309 rfl rfl (by decide) (by decide) hp (nwL 8) (a := 204) rfl ?_
  refine Rg.put 314 F_Mo_init_311 rfl rF_26_132 (CM_get hp) (by decide) (Nat.le_of_ble_eq_true rfl) (Or.inr (Or.inr ⟨rfl, rfl⟩)) rfl (CM_put hp (fs1 := [.int 0, .long 0, .long (lI 1), .long 0, .long (lI 1), .long (lI 1), .long (lI 1000), .ref 169, .ref 170, .ref 171, .ref 172, .ref 173, .ref 174, .ref 175, .int 0, .ref 176, .ref 177, .ref 178, .ref 179, .ref 180, .ref 181, .ref 182, .ref 183, .ref 184, .ref 185, .ref 186, .ref 187, .ref 188, .ref 189, .ref 190, .int 0, .ref 191, .ref 192, .ref 193, .ref 194, .ref 195, .int 0, .ref 196, .int 0, .ref 197, .int 0, .ref 198, .ref 199, .long 0, .ref 200, .ref 201, .ref 202, .ref 203, .ref 204, .null, .int 0, .int 0, .int 0, .int 0, .null, .null, .null, .long 0, .long 0, .null, .null, .null, .null, .null, .null, .null, .null, .null]) rfl) ?_
  refine Rg.step 315 F_Mo_init_314 rfl (fun _ => rfl) ?_
  refine Rg.bip 317 F_Mo_init_315 rfl rfl ?_
  refine Rg.newC 319 F_Mo_init_317 rfl rfl (by decide) (by decide) hp (nwL 8) (a := 205) rfl ?_
  refine Rg.put 322 F_Mo_init_319 rfl rF_26_135 (CM_get hp) (by decide) (Nat.le_of_ble_eq_true rfl) (Or.inr (Or.inr ⟨rfl, rfl⟩)) rfl (CM_put hp (fs1 := [.int 0, .long 0, .long (lI 1), .long 0, .long (lI 1), .long (lI 1), .long (lI 1000), .ref 169, .ref 170, .ref 171, .ref 172, .ref 173, .ref 174, .ref 175, .int 0, .ref 176, .ref 177, .ref 178, .ref 179, .ref 180, .ref 181, .ref 182, .ref 183, .ref 184, .ref 185, .ref 186, .ref 187, .ref 188, .ref 189, .ref 190, .int 0, .ref 191, .ref 192, .ref 193, .ref 194, .ref 195, .int 0, .ref 196, .int 0, .ref 197, .int 0, .ref 198, .ref 199, .long 0, .ref 200, .ref 201, .ref 202, .ref 203, .ref 204, .ref 205, .int 0, .int 0, .int 0, .int 0, .null, .null, .null, .long 0, .long 0, .null, .null, .null, .null, .null, .null, .null, .null, .null]) rfl) ?_
  refine Rg.step 323 F_Mo_init_322 rfl (fun _ => rfl) ?_
  refine Rg.step 324 F_Mo_init_323 rfl (fun _ => rfl) ?_
  refine Rg.put 327 F_Mo_init_324 rfl rF_26_138 (CM_get hp) (by decide) (Nat.le_of_ble_eq_true rfl) (Or.inl rfl) rfl (CM_put hp (fs1 := [.int 0, .long 0, .long (lI 1), .long 0, .long (lI 1), .long (lI 1), .long (lI 1000), .ref 169, .ref 170, .ref 171, .ref 172, .ref 173, .ref 174, .ref 175, .int 0, .ref 176, .ref 177, .ref 178, .ref 179, .ref 180, .ref 181, .ref 182, .ref 183, .ref 184, .ref 185, .ref 186, .ref 187, .ref 188, .ref 189, .ref 190, .int 0, .ref 191, .ref 192, .ref 193, .ref 194, .ref 195, .int 0, .ref 196, .int 0, .ref 197, .int 0, .ref 198, .ref 199, .long 0, .ref 200, .ref 201, .ref 202, .ref 203, .ref 204, .ref 205, .int 0, .int 0, .int 0, .int (iI (-1)), .null, .null, .null, .long 0, .long 0, .null, .null, .null, .null, .null, .null, .null, .null, .null]) rfl) ?_
  refine Rg.step 328 F_Mo_init_327 rfl (fun _ => rfl) ?_
  refine Rg.bip 330 F_Mo_init_328 rfl rfl ?_
  refine Rg.newC 332 F_Mo_init_330 rfl rfl (by decide) (by decide) hp (nwZ 16) (a := 206) rfl ?_
  refine Rg.put 335 F_Mo_init_332 rfl rF_26_142 (CM_get hp) (by decide) (Nat.le_of_ble_eq_true rfl) (Or.inr (Or.inr ⟨rfl, rfl⟩)) rfl (CM_put hp (fs1 := [.int 0, .long 0, .long (lI 1), .long 0, .long (lI 1), .long (lI 1), .long (lI 1000), .ref 169, .ref 170, .ref 171, .ref 172, .ref 173, .ref 174, .ref 175, .int 0, .ref 176, .ref 177, .ref 178, .ref 179, .ref 180, .ref 181, .ref 182, .ref 183, .ref 184, .ref 185, .ref 186, .ref 187, .ref 188, .ref 189, .ref 190, .int 0, .ref 191, .ref 192, .ref 193, .ref 194, .ref 195, .int 0, .ref 196, .int 0, .ref 197, .int 0, .ref 198, .ref 199, .long 0, .ref 200, .ref 201, .ref 202, .ref 203, .ref 204, .ref 205, .int 0, .int 0, .int 0, .int (iI (-1)), .ref 206, .null, .null, .long 0, .long 0, .null, .null, .null, .null, .null, .null, .null, .null, .null]) rfl) ?_
  refine Rg.step 336 F_Mo_init_335 rfl (fun _ => rfl) ?_
  refine Rg.bip 338 F_Mo_init_336 rfl rfl ?_
  refine Rg.newC 340 F_Mo_init_338 rfl rfl (by decide) (by decide) hp (nwL 8) (a := 207) rfl ?_
  refine Rg.put 343 F_Mo_init_340 rfl rF_26_145 (CM_get hp) (by decide) (Nat.le_of_ble_eq_true rfl) (Or.inr (Or.inr ⟨rfl, rfl⟩)) rfl (CM_put hp (fs1 := [.int 0, .long 0, .long (lI 1), .long 0, .long (lI 1), .long (lI 1), .long (lI 1000), .ref 169, .ref 170, .ref 171, .ref 172, .ref 173, .ref 174, .ref 175, .int 0, .ref 176, .ref 177, .ref 178, .ref 179, .ref 180, .ref 181, .ref 182, .ref 183, .ref 184, .ref 185, .ref 186, .ref 187, .ref 188, .ref 189, .ref 190, .int 0, .ref 191, .ref 192, .ref 193, .ref 194, .ref 195, .int 0, .ref 196, .int 0, .ref 197, .int 0, .ref 198, .ref 199, .long 0, .ref 200, .ref 201, .ref 202, .ref 203, .ref 204, .ref 205, .int 0, .int 0, .int 0, .int (iI (-1)), .ref 206, .ref 207, .null, .long 0, .long 0, .null, .null, .null, .null, .null, .null, .null, .null, .null]) rfl) ?_
  refine Rg.step 344 F_Mo_init_343 rfl (fun _ => rfl) ?_
  refine Rg.bip 346 F_Mo_init_344 rfl rfl ?_
  refine Rg.newC 348 F_Mo_init_346 rfl rfl (by decide) (by decide) hp (nwL 8) (a := 208) rfl ?_
  refine Rg.put 351 F_Mo_init_348 rfl rF_26_148 (CM_get hp) (by decide) (Nat.le_of_ble_eq_true rfl) (Or.inr (Or.inr ⟨rfl, rfl⟩)) rfl (CM_put hp (fs1 := [.int 0, .long 0, .long (lI 1), .long 0, .long (lI 1), .long (lI 1), .long (lI 1000), .ref 169, .ref 170, .ref 171, .ref 172, .ref 173, .ref 174, .ref 175, .int 0, .ref 176, .ref 177, .ref 178, .ref 179, .ref 180, .ref 181, .ref 182, .ref 183, .ref 184, .ref 185, .ref 186, .ref 187, .ref 188, .ref 189, .ref 190, .int 0, .ref 191, .ref 192, .ref 193, .ref 194, .ref 195, .int 0, .ref 196, .int 0, .ref 197, .int 0, .ref 198, .ref 199, .long 0, .ref 200, .ref 201, .ref 202, .ref 203, .ref 204, .ref 205, .int 0, .int 0, .int 0, .int (iI (-1)), .ref 206, .ref 207, .ref 208, .long 0, .long 0, .null, .null, .null, .null, .null, .null, .null, .null, .null]) rfl) ?_
  refine Rg.step 352 F_Mo_init_351 rfl (fun _ => rfl) ?_
  refine Rg.bip 354 F_Mo_init_352 rfl rfl ?_
  refine Rg.newC 356 F_Mo_init_354 rfl rfl (by decide) (by decide) hp (nwL 24) (a := 209) rfl ?_
  refine Rg.put 359 F_Mo_init_356 rfl rF_26_151 (CM_get hp) (by decide) (Nat.le_of_ble_eq_true rfl) (Or.inr (Or.inr ⟨rfl, rfl⟩)) rfl (CM_put hp (fs1 := [.int 0, .long 0, .long (lI 1), .long 0, .long (lI 1), .long (lI 1), .long (lI 1000), .ref 169, .ref 170, .ref 171, .ref 172, .ref 173, .ref 174, .ref 175, .int 0, .ref 176, .ref 177, .ref 178, .ref 179, .ref 180, .ref 181, .ref 182, .ref 183, .ref 184, .ref 185, .ref 186, .ref 187, .ref 188, .ref 189, .ref 190, .int 0, .ref 191, .ref 192, .ref 193, .ref 194, .ref 195, .int 0, .ref 196, .int 0, .ref 197, .int 0, .ref 198, .ref 199, .long 0, .ref 200, .ref 201, .ref 202, .ref 203, .ref 204, .ref 205, .int 0, .int 0, .int 0, .int (iI (-1)), .ref 206, .ref 207, .ref 208, .long 0, .long 0, .ref 209, .null, .null, .null, .null, .null, .null, .null, .null]) rfl) ?_
  refine Rg.step 360 F_Mo_init_359 rfl (fun _ => rfl) ?_
  refine Rg.bip 362 F_Mo_init_360 rfl rfl ?_
  refine Rg.newC 364 F_Mo_init_362 rfl rfl (by decide) (by decide) hp (nwL 24) (a := 210) rfl ?_
  refine Rg.put 367 F_Mo_init_364 rfl rF_26_154 (CM_get hp) (by decide) (Nat.le_of_ble_eq_true rfl) (Or.inr (Or.inr ⟨rfl, rfl⟩)) rfl (CM_put hp (fs1 := [.int 0, .long 0, .long (lI 1), .long 0, .long (lI 1), .long (lI 1), .long (lI 1000), .ref 169, .ref 170, .ref 171, .ref 172, .ref 173, .ref 174, .ref 175, .int 0, .ref 176, .ref 177, .ref 178, .ref 179, .ref 180, .ref 181, .ref 182, .ref 183, .ref 184, .ref 185, .ref 186, .ref 187, .ref 188, .ref 189, .ref 190, .int 0, .ref 191, .ref 192, .ref 193, .ref 194, .ref 195, .int 0, .ref 196, .int 0, .ref 197, .int 0, .ref 198, .ref 199, .long 0, .ref 200, .ref 201, .ref 202, .ref 203, .ref 204, .ref 205, .int 0, .int 0, .int 0, .int (iI (-1)), .ref 206, .ref 207, .ref 208, .long 0, .long 0, .ref 209, .ref 210, .null, .null, .null, .null, .null, .null, .null]) rfl) ?_
  refine Rg.step 368 F_Mo_init_367 rfl (fun _ => rfl) ?_
  refine Rg.bip 370 F_Mo_init_368 rfl rfl ?_
  refine Rg.newC 372 F_Mo_init_370 rfl rfl (by decide) (by decide) hp (nwZ 24) (a := 211) rfl ?_
  refine Rg.put 375 F_Mo_init_372 rfl rF_26_157 (CM_get hp) (by decide) (Nat.le_of_ble_eq_true rfl) (Or.inr (Or.inr ⟨rfl, rfl⟩)) rfl (CM_put hp (fs1 := [.int 0, .long 0, .long (lI 1), .long 0, .long (lI 1), .long (lI 1), .long (lI 1000), .ref 169, .ref 170, .ref 171, .ref 172, .ref 173, .ref 174, .ref 175, .int 0, .ref 176, .ref 177, .ref 178, .ref 179, .ref 180, .ref 181, .ref 182, .ref 183, .ref 184, .ref 185, .ref 186, .ref 187, .ref 188, .ref 189, .ref 190, .int 0, .ref 191, .ref 192, .ref 193, .ref 194, .ref 195, .int 0, .ref 196, .int 0, .ref 197, .int 0, .ref 198, .ref 199, .long 0, .ref 200, .ref 201, .ref 202, .ref 203, .ref 204, .ref 205, .int 0, .int 0, .int 0, .int (iI (-1)), .ref 206, .ref 207, .ref 208, .long 0, .long 0, .ref 209, .ref 210, .ref 211, .null, .null, .null, .null, .null, .null]) rfl) ?_
  refine Rg.step 376 F_Mo_init_375 rfl (fun _ => rfl) ?_
  refine Rg.bip 378 F_Mo_init_376 rfl rfl ?_
  refine Rg.newC 380 F_Mo_init_378 rfl rfl (by decide) (by decide) hp (nwZ 24) (a := 212) rfl ?_
  refine Rg.put 383 F_Mo_init_380 rfl rF_26_160 (CM_get hp) (by decide) (Nat.le_of_ble_eq_true rfl) (Or.inr (Or.inr ⟨rfl, rfl⟩)) rfl (CM_put hp (fs1 := [.int 0, .long 0, .long (lI 1), .long 0, .long (lI 1), .long (lI 1), .long (lI 1000), .ref 169, .ref 170, .ref 171, .ref 172, .ref 173, .ref 174, .ref 175, .int 0, .ref 176, .ref 177, .ref 178, .ref 179, .ref 180, .ref 181, .ref 182, .ref 183, .ref 184, .ref 185, .ref 186, .ref 187, .ref 188, .ref 189, .ref 190, .int 0, .ref 191, .ref 192, .ref 193, .ref 194, .ref 195, .int 0, .ref 196, .int 0, .ref 197, .int 0, .ref 198, .ref 199, .long 0, .ref 200, .ref 201, .ref 202, .ref 203, .ref 204, .ref 205, .int 0, .int 0, .int 0, .int (iI (-1)), .ref 206, .ref 207, .ref 208, .long 0, .long 0, .ref 209, .ref 210, .ref 211, .ref 212, .null, .null, .null, .null, .null]) rfl) ?_
  refine Rg.step 384 F_Mo_init_383 rfl (fun _ => rfl) ?_
  refine Rg.bip 386 F_Mo_init_384 rfl rfl ?_
  refine Rg.newC 388 F_Mo_init_386 rfl rfl (by decide) (by decide) hp (nwL 12) (a := 213) rfl ?_
  refine Rg.put 391 F_Mo_init_388 rfl rF_26_163 (CM_get hp) (by decide) (Nat.le_of_ble_eq_true rfl) (Or.inr (Or.inr ⟨rfl, rfl⟩)) rfl (CM_put hp (fs1 := [.int 0, .long 0, .long (lI 1), .long 0, .long (lI 1), .long (lI 1), .long (lI 1000), .ref 169, .ref 170, .ref 171, .ref 172, .ref 173, .ref 174, .ref 175, .int 0, .ref 176, .ref 177, .ref 178, .ref 179, .ref 180, .ref 181, .ref 182, .ref 183, .ref 184, .ref 185, .ref 186, .ref 187, .ref 188, .ref 189, .ref 190, .int 0, .ref 191, .ref 192, .ref 193, .ref 194, .ref 195, .int 0, .ref 196, .int 0, .ref 197, .int 0, .ref 198, .ref 199, .long 0, .ref 200, .ref 201, .ref 202, .ref 203, .ref 204, .ref 205, .int 0, .int 0, .int 0, .int (iI (-1)), .ref 206, .ref 207, .ref 208, .long 0, .long 0, .ref 209, .ref 210, .ref 211, .ref 212, .ref 213, .null, .null, .null, .null]) rfl) ?_
  refine Rg.step 392 F_Mo_init_391 rfl (fun _ => rfl) ?_
  refine Rg.bip 394 F_Mo_init_392 rfl rfl ?_
  refine Rg.newC 396 F_Mo_init_394 rfl rfl (by decide) (by decide) hp (nwL 12) (a := 214) rfl ?_
  refine Rg.put 399 F_Mo_init_396 rfl rF_26_166 (CM_get hp) (by decide) (Nat.le_of_ble_eq_true rfl) (Or.inr (Or.inr ⟨rfl, rfl⟩)) rfl (CM_put hp (fs1 := [.int 0, .long 0, .long (lI 1), .long 0, .long (lI 1), .long (lI 1), .long (lI 1000), .ref 169, .ref 170, .ref 171, .ref 172, .ref 173, .ref 174, .ref 175, .int 0, .ref 176, .ref 177, .ref 178, .ref 179, .ref 180, .ref 181, .ref 182, .ref 183, .ref 184, .ref 185, .ref 186, .ref 187, .ref 188, .ref 189, .ref 190, .int 0, .ref 191, .ref 192, .ref 193, .ref 194, .ref 195, .int 0, .ref 196, .int 0, .ref 197, .int 0, .ref 198, .ref 199, .long 0, .ref 200, .ref 201, .ref 202, .ref 203, .ref 204, .ref 205, .int 0, .int 0, .int 0, .int (iI (-1)), .ref 206, .ref 207, .ref 208, .long 0, .long 0, .ref 209, .ref 210, .ref 211, .ref 212, .ref 213, .ref 214, .null, .null, .null]) rfl) ?_
  refine Rg.step 400 F_Mo_init_399 rfl (fun _ => rfl) ?_
  refine Rg.bip 402 F_Mo_init_400 rfl rfl ?_
  refine Rg.newC 404 F_Mo_init_402 rfl rfl (by decide) (by decide) hp (nwL 12) (a := 215) rfl ?_
  refine Rg.put 407 F_Mo_init_404 rfl rF_26_169 (CM_get hp) (by decide) (Nat.le_of_ble_eq_true rfl) (Or.inr (Or.inr ⟨rfl, rfl⟩)) rfl (CM_put hp (fs1 := [.int 0, .long 0, .long (lI 1), .long 0, .long (lI 1), .long (lI 1), .long (lI 1000), .ref 169, .ref 170, .ref 171, .ref 172, .ref 173, .ref 174, .ref 175, .int 0, .ref 176, .ref 177, .ref 178, .ref 179, .ref 180, .ref 181, .ref 182, .ref 183, .ref 184, .ref 185, .ref 186, .ref 187, .ref 188, .ref 189, .ref 190, .int 0, .ref 191, .ref 192, .ref 193, .ref 194, .ref 195, .int 0, .ref 196, .int 0, .ref 197, .int 0, .ref 198, .ref 199, .long 0, .ref 200, .ref 201, .ref 202, .ref 203, .ref 204, .ref 205, .int 0, .int 0, .int 0, .int (iI (-1)), .ref 206, .ref 207, .ref 208, .long 0, .long 0, .ref 209, .ref 210, .ref 211, .ref 212, .ref 213, .ref 214, .ref 215, .null, .null]) rfl) ?_
  refine Rg.step 408 F_Mo_init_407 rfl (fun _ => rfl) ?_
  refine Rg.bip 410 F_Mo_init_408 rfl rfl ?_
  refine Rg.newC 412 F_Mo_init_410 rfl rfl (by decide) (by decide) hp (nwL 12) (a := 216) rfl ?_
  refine Rg.put 415 F_Mo_init_412 rfl rF_26_172 (CM_get hp) (by decide) (Nat.le_of_ble_eq_true rfl) (Or.inr (Or.inr ⟨rfl, rfl⟩)) rfl (CM_put hp (fs1 := [.int 0, .long 0, .long (lI 1), .long 0, .long (lI 1), .long (lI 1), .long (lI 1000), .ref 169, .ref 170, .ref 171, .ref 172, .ref 173, .ref 174, .ref 175, .int 0, .ref 176, .ref 177, .ref 178, .ref 179, .ref 180, .ref 181, .ref 182, .ref 183, .ref 184, .ref 185, .ref 186, .ref 187, .ref 188, .ref 189, .ref 190, .int 0, .ref 191, .ref 192, .ref 193, .ref 194, .ref 195, .int 0, .ref 196, .int 0, .ref 197, .int 0, .ref 198, .ref 199, .long 0, .ref 200, .ref 201, .ref 202, .ref 203, .ref 204, .ref 205, .int 0, .int 0, .int 0, .int (iI (-1)), .ref 206, .ref 207, .ref 208, .long 0, .long 0, .ref 209, .ref 210, .ref 211, .ref 212, .ref 213, .ref 214, .ref 215, .ref 216, .null]) rfl) ?_
  refine Rg.step 416 F_Mo_init_415 rfl (fun _ => rfl) ?_
  refine Rg.bip 418 F_Mo_init_416 rfl rfl ?_
  refine Rg.newC 420 F_Mo_init_418 rfl rfl (by decide) (by decide) hp (nwI 6) (a := 217) rfl ?_
  refine Rg.put 423 F_Mo_init_420 rfl rF_26_175 (CM_get hp) (by decide) (Nat.le_of_ble_eq_true rfl) (Or.inr (Or.inr ⟨rfl, rfl⟩)) rfl (CM_put hp (fs1 := [.int 0, .long 0, .long (lI 1), .long 0, .long (lI 1), .long (lI 1), .long (lI 1000), .ref 169, .ref 170, .ref 171, .ref 172, .ref 173, .ref 174, .ref 175, .int 0, .ref 176, .ref 177, .ref 178, .ref 179, .ref 180, .ref 181, .ref 182, .ref 183, .ref 184, .ref 185, .ref 186, .ref 187, .ref 188, .ref 189, .ref 190, .int 0, .ref 191, .ref 192, .ref 193, .ref 194, .ref 195, .int 0, .ref 196, .int 0, .ref 197, .int 0, .ref 198, .ref 199, .long 0, .ref 200, .ref 201, .ref 202, .ref 203, .ref 204, .ref 205, .int 0, .int 0, .int 0, .int (iI (-1)), .ref 206, .ref 207, .ref 208, .long 0, .long 0, .ref 209, .ref 210, .ref 211, .ref 212, .ref 213, .ref 214, .ref 215, .ref 216, .ref 217]) rfl) ?_
  refine Rg.frM (show CM _ _ _ _ = (MR pre 0 0 1 0 1 1 1000 (fun _ => False) (fun _ => 0) (fun _ => 0) (fun _ => 0) (fun _ => 0) (fun _ => 0) (fun _ => 0) 0 (fun _ => 0) (fun _ => 0) (fun _ => 0) (fun _ => 0) (fun _ => 0) (fun _ => 0) (fun _ => 0) (fun _ => 0) (fun _ => 0) (fun _ => 0) (fun _ => 0) (fun _ => 0) (fun _ => 0) (fun _ => 0) (fun _ => 0) 0 (fun _ => 0) (fun _ => 0) (fun _ => 0) (fun _ => 0) (fun _ => 0) 0 (fun _ => 0) 0 (fun _ => 0) 0 (fun _ => 0) (fun _ => 0) 0 (fun _ => False) (fun _ => 0) (fun _ => 0) (fun _ => False) (fun _ => 0) (fun _ => 0) 0 0 0 (-1) (fun _ => False) (fun _ => 0) (fun _ => 0) 0 0 (fun _ => 0) (fun _ => 0) (fun _ => False) (fun _ => False) (fun _ => 0) (fun _ => 0) (fun _ => 0) (fun _ => 0) (fun _ => 0) []) by unfold CM MR encR; rfl) ?_
  refine Rg.step 424 F_Mo_init_423 rfl (fun _ => rfl) ?_
  refine Rg.step 425 F_Mo_init_424 rfl (fun _ => rfl) ?_
  refine Rg.frM (((kR_firstD (mix0_L (fun _ => (1 : Int)) (fun _ => 0))).trans (kR_wants (mix0_I (fun _ => (-1 : Int)) (fun _ => 0)))).trans (kR_wantD (mix0_L (fun _ => (1 : Int)) (fun _ => 0)))) (Rg.weak (init_l1 hp ?_ 8 0 (by omega) (by omega)) (by simp [lput1, lput2, Value.category, fi0, fi1, fi2, fi3] <;> first | rfl | exact ⟨rfl, rfl⟩) (by simp [lput1, lput2, Value.category, fi0, fi1, fi2, fi3] <;> first | rfl | exact ⟨rfl, rfl⟩))
  refine Rg.frM (((kR_firstD (mix_L (fun _ => (1 : Int)) (fun _ => 0))).trans (kR_wants (mix_I (fun _ => (-1 : Int)) (fun _ => 0)))).trans (kR_wantD (mix_L (fun _ => (1 : Int)) (fun _ => 0)))) ?_
  refine Rg.step 459 F_Mo_init_458 rfl (fun _ => rfl) ?_
  refine Rg.step 460 F_Mo_init_459 rfl (fun _ => rfl) ?_
  refine Rg.toM (kR_wishes (mix_I (fun _ => (-1 : Int)) (fun _ => 0))) ?_
  exact Rg.frM (kR_wishes (mix0_I (fun _ => (-1 : Int)) (fun _ => 0))) (Rg.weak (init_l2 hp 16 0 (by omega) (by omega)) (by simp [lput1, lput2, Value.category, fi0, fi1, fi2, fi3] <;> first | rfl | exact ⟨rfl, rfl⟩) (by simp [lput1, lput2, Value.category, fi0, fi1, fi2, fi3] <;> first | rfl | exact ⟨rfl, rfl⟩))
end R57
