/-! The reference: its states. -/
noncomputable def mix {α : Type _} (k : Int) (f g : Int → α) : Int → α := fun z => if z < k then f z else g z
theorem mix_up {α : Type _} (k : Int) (f g : Int → α) : up1 (mix k f g) k (f k) = mix (k + 1) f g := by
  funext j
  unfold up1 mix
  by_cases h : j = k
  · subst h
    rw [if_pos rfl, if_pos (by omega)]
  · rw [if_neg h]
    by_cases h2 : j < k
    · rw [if_pos h2, if_pos (by omega)]
    · rw [if_neg h2, if_neg (by omega)]
theorem mix_L {n : Nat} (f g : Int → Int) : aL n (mix n f g) = aL n f := aL_c (fun z _ h => by unfold mix; rw [if_pos h])
theorem mix_I {n : Nat} (f g : Int → Int) : aI n (mix n f g) = aI n f := aI_c (fun z _ h => by unfold mix; rw [if_pos h])
theorem mix_Z {n : Nat} (f g : Int → Prop) : aZ n (mix n f g) = aZ n f := aZ_c (fun z _ h => by unfold mix; rw [if_pos h])
theorem mix0_L {n : Nat} (f g : Int → Int) : aL n g = aL n (mix 0 f g) := aL_c (fun z h _ => by unfold mix; rw [if_neg (by omega)])
theorem mix0_I {n : Nat} (f g : Int → Int) : aI n g = aI n (mix 0 f g) := aI_c (fun z h _ => by unfold mix; rw [if_neg (by omega)])
theorem mix0_Z {n : Nat} (f g : Int → Prop) : aZ n g = aZ n (mix 0 f g) := aZ_c (fun z h _ => by unfold mix; rw [if_neg (by omega)])
/-- a need is met -/
def so (needOf needHow needN needD : Int → Int) (facts : Int → Prop) (numN numD : Int → Int) (k : Int) : Prop := (9 < needHow k ∧ (facts (needOf k) ↔ needHow k = 11)) ∨ (¬ 9 < needHow k ∧ cmps (needHow k) (cmpF (numN (needOf k)) (numD (needOf k)) (needN k) (needD k)))
def fit (needs needTime needOf needHow needN needD : Int → Int) (facts : Int → Prop) (numN numD : Int → Int) (a t : Int) : Prop := ∀ k, 8 * a ≤ k → k < 8 * a + needs a → needTime k = t → so needOf needHow needN needD facts numN numD k
def goal (wishes wants wantN wantD : Int → Int) (facts : Int → Prop) (numN numD : Int → Int) : Prop := (∀ f, 0 ≤ f → f < 16 → 0 ≤ wishes f → (facts f ↔ wishes f = 1)) ∧ (∀ n, 0 ≤ n → n < 8 → 0 ≤ wants n → cmps (wants n) (cmpF (numN n) (numD n) (wantN n) (wantD n)))
/-- numbers of a state that are not too long -/
def WN (numN numD : Int → Int) : Prop := ∀ n, -1000000000 ≤ numN n ∧ numN n ≤ 1000000000 ∧ 0 < numD n ∧ numD n ≤ 1000000000
def durP (numN lastOf lastN : Int → Int) (k : Int) : Int := if lastOf k = -1 then lastN k else numN (lastOf k) * lastN k
def rawN (how nn nd n d : Int) : Int := if how = 0 then n else if how = 3 then nn * n else if how = 1 then nn * d + n * nd else nn * d + -n * nd
def rawD (how nd d : Int) : Int := if how = 0 then d else nd * d
section R46
variable {pre post mem : AM}
variable {code amountN amountD momentN momentD epsilonN epsilonD actions steps rows tried triedRows unit point judged fault faultPoint outN outD : Int}
variable {firstN firstD wishes wants wantN wantD needs needTime needOf needHow needN needD changes changeTime changeOf changeHow changeN changeD lastOf lastN lastD stepAction startN startD lengthN lengthD row triedAction triedRow times numN numD oldN oldD toldN toldD pointN pointD leastN leastD greatestN greatestD events : Int → Int}
variable {firstFacts facts oldFacts toldFacts gone now : Int → Prop}
theorem beginState_l2 {d n0 : Nat} (hp : pre.length = 168) : ∀ (n : Nat) (k : Int), k + n = 8 → 0 ≤ k → Rg false d m_Mo_beginState n0 28 [(1, .int (iI k)), (0, .ref 168)] [] (MR pre code amountN amountD momentN momentD epsilonN epsilonD firstFacts firstN firstD wishes wants wantN wantD actions needs needTime needOf needHow needN needD changes changeTime changeOf changeHow changeN changeD lastOf lastN lastD steps stepAction startN startD lengthN lengthD rows row tried triedAction triedRows triedRow times unit facts (mix k firstN numN) (mix k firstD numD) oldFacts oldN oldD point judged fault faultPoint toldFacts toldN toldD outN outD pointN pointD gone now leastN leastD greatestN greatestD events post) (.inl none) (MR pre code amountN amountD momentN momentD epsilonN epsilonD firstFacts firstN firstD wishes wants wantN wantD actions needs needTime needOf needHow needN needD changes changeTime changeOf changeHow changeN changeD lastOf lastN lastD steps stepAction startN startD lengthN lengthD rows row tried triedAction triedRows triedRow times unit facts (mix 8 firstN numN) (mix 8 firstD numD) oldFacts oldN oldD point judged fault faultPoint toldFacts toldN toldD outN outD pointN pointD gone now leastN leastD greatestN greatestD events post) := by
  intro n
  induction n with
  | zero =>
    intro k hk hk2
    have hk : k = 8 := by omega
    subst hk
    refine Rg.step 29 F_Mo_beginState_28 rfl (fun _ => rfl) ?_
    refine Rg.bip 31 F_Mo_beginState_29 rfl rfl ?_
    refine Rg.icgeI 64 34 F_Mo_beginState_31 rfl rfl (by omega) (by omega) (fun _ => ?_) (fun h31 => by omega)
    exact Rg.retV F_Mo_beginState_64 rfl rfl
  | succ n ih =>
    intro k hk hk2
    refine Rg.step 29 F_Mo_beginState_28 rfl (fun _ => rfl) ?_
    refine Rg.bip 31 F_Mo_beginState_29 rfl rfl ?_
    refine Rg.icgeI 64 34 F_Mo_beginState_31 rfl rfl (by omega) (by omega) (fun h31 => by omega) (fun _ => ?_)
    refine Rg.step 35 F_Mo_beginState_34 rfl (fun _ => rfl) ?_
    refine Rg.getf 38 F_Mo_beginState_35 rfl rF_26_123 (gM hp) rfl ?_
    refine Rg.step 39 F_Mo_beginState_38 rfl (fun _ => rfl) ?_
    refine Rg.step 40 F_Mo_beginState_39 rfl (fun _ => rfl) ?_
    refine Rg.getf 43 F_Mo_beginState_40 rfl rF_26_28 (gM hp) rfl ?_
    refine Rg.step 44 F_Mo_beginState_43 rfl (fun _ => rfl) ?_
    refine Rg.lld 45 F_Mo_beginState_44 rfl (gR_firstN hp) (by omega) (by decide) ?_
    refine Rg.lst 46 F_Mo_beginState_45 rfl (gR_numN hp) (by decide) (sR_numN hp) (by omega) (by decide) ?_
    refine Rg.step 47 F_Mo_beginState_46 rfl (fun _ => rfl) ?_
    refine Rg.getf 50 F_Mo_beginState_47 rfl rF_26_126 (gM hp) rfl ?_
    refine Rg.step 51 F_Mo_beginState_50 rfl (fun _ => rfl) ?_
    refine Rg.step 52 F_Mo_beginState_51 rfl (fun _ => rfl) ?_
    refine Rg.getf 55 F_Mo_beginState_52 rfl rF_26_32 (gM hp) rfl ?_
    refine Rg.step 56 F_Mo_beginState_55 rfl (fun _ => rfl) ?_
    refine Rg.lld 57 F_Mo_beginState_56 rfl (gR_firstD hp) (by omega) (by decide) ?_
    refine Rg.lst 58 F_Mo_beginState_57 rfl (gR_numD hp) (by decide) (sR_numD hp) (by omega) (by decide) ?_
    refine Rg.inc 61 F_Mo_beginState_58 rfl rfl (by decide) ?_
    refine Rg.step 28 F_Mo_beginState_61 rfl (fun _ => rfl) ?_
    rw [mix_up, mix_up]
    exact Rg.weak (ih (k + 1) (by omega) (by omega)) (by simp [lput1, lput2, Value.category, fi0, fi1, fi2, fi3] <;> first | rfl | exact ⟨rfl, rfl⟩) (by simp [lput1, lput2, Value.category, fi0, fi1, fi2, fi3] <;> first | rfl | exact ⟨rfl, rfl⟩)
theorem beginState_l1 {d n0 : Nat} (hp : pre.length = 168) : ∀ (n : Nat) (k : Int), k + n = 16 → 0 ≤ k → Rg false d m_Mo_beginState n0 2 [(1, .int (iI k)), (0, .ref 168)] [] (MR pre code amountN amountD momentN momentD epsilonN epsilonD firstFacts firstN firstD wishes wants wantN wantD actions needs needTime needOf needHow needN needD changes changeTime changeOf changeHow changeN changeD lastOf lastN lastD steps stepAction startN startD lengthN lengthD rows row tried triedAction triedRows triedRow times unit (mix k firstFacts facts) numN numD oldFacts oldN oldD point judged fault faultPoint toldFacts toldN toldD outN outD pointN pointD gone now leastN leastD greatestN greatestD events post) (.inl none) (MR pre code amountN amountD momentN momentD epsilonN epsilonD firstFacts firstN firstD wishes wants wantN wantD actions needs needTime needOf needHow needN needD changes changeTime changeOf changeHow changeN changeD lastOf lastN lastD steps stepAction startN startD lengthN lengthD rows row tried triedAction triedRows triedRow times unit (mix 16 firstFacts facts) (mix 8 firstN numN) (mix 8 firstD numD) oldFacts oldN oldD point judged fault faultPoint toldFacts toldN toldD outN outD pointN pointD gone now leastN leastD greatestN greatestD events post) := by
  intro n
  induction n with
  | zero =>
    intro k hk hk2
    have hk : k = 16 := by omega
    subst hk
    refine Rg.step 3 F_Mo_beginState_2 rfl (fun _ => rfl) ?_
    refine Rg.bip 5 F_Mo_beginState_3 rfl rfl ?_
    refine Rg.icgeI 26 8 F_Mo_beginState_5 rfl rfl (by omega) (by omega) (fun _ => ?_) (fun h5 => by omega)
    refine Rg.step 27 F_Mo_beginState_26 rfl (fun _ => rfl) ?_
    refine Rg.step 28 F_Mo_beginState_27 rfl (fun _ => rfl) ?_
    exact Rg.frM ((kR_numN (mix0_L firstN numN)).trans (kR_numD (mix0_L firstD numD))) (Rg.weak (beginState_l2 hp 8 0 (by omega) (by omega)) (by simp [lput1, lput2, Value.category, fi0, fi1, fi2, fi3] <;> first | rfl | exact ⟨rfl, rfl⟩) (by simp [lput1, lput2, Value.category, fi0, fi1, fi2, fi3] <;> first | rfl | exact ⟨rfl, rfl⟩))
  | succ n ih =>
    intro k hk hk2
    refine Rg.step 3 F_Mo_beginState_2 rfl (fun _ => rfl) ?_
    refine Rg.bip 5 F_Mo_beginState_3 rfl rfl ?_
    refine Rg.icgeI 26 8 F_Mo_beginState_5 rfl rfl (by omega) (by omega) (fun h5 => by omega) (fun _ => ?_)
    refine Rg.step 9 F_Mo_beginState_8 rfl (fun _ => rfl) ?_
    refine Rg.getf 12 F_Mo_beginState_9 rfl rF_26_120 (gM hp) rfl ?_
    refine Rg.step 13 F_Mo_beginState_12 rfl (fun _ => rfl) ?_
    refine Rg.step 14 F_Mo_beginState_13 rfl (fun _ => rfl) ?_
    refine Rg.getf 17 F_Mo_beginState_14 rfl rF_26_24 (gM hp) rfl ?_
    refine Rg.step 18 F_Mo_beginState_17 rfl (fun _ => rfl) ?_
    refine Rg.zld 19 F_Mo_beginState_18 rfl (gR_firstFacts hp) (by omega) (by decide) ?_
    refine Rg.zst 20 F_Mo_beginState_19 rfl (gR_facts hp) (by decide) (sR_facts hp) (by omega) (by decide) ?_
    refine Rg.inc 23 F_Mo_beginState_20 rfl rfl (by decide) ?_
    refine Rg.step 2 F_Mo_beginState_23 rfl (fun _ => rfl) ?_
    rw [mix_up]
    exact Rg.weak (ih (k + 1) (by omega) (by omega)) (by simp [lput1, lput2, Value.category, fi0, fi1, fi2, fi3] <;> first | rfl | exact ⟨rfl, rfl⟩) (by simp [lput1, lput2, Value.category, fi0, fi1, fi2, fi3] <;> first | rfl | exact ⟨rfl, rfl⟩)
theorem c_Mo_beginState {d : Nat}  (hp : pre.length = 168) : Cg false d m_Mo_beginState [.ref 168] (MR pre code amountN amountD momentN momentD epsilonN epsilonD firstFacts firstN firstD wishes wants wantN wantD actions needs needTime needOf needHow needN needD changes changeTime changeOf changeHow changeN changeD lastOf lastN lastD steps stepAction startN startD lengthN lengthD rows row tried triedAction triedRows triedRow times unit facts numN numD oldFacts oldN oldD point judged fault faultPoint toldFacts toldN toldD outN outD pointN pointD gone now leastN leastD greatestN greatestD events post) (.inl none) (MR pre code amountN amountD momentN momentD epsilonN epsilonD firstFacts firstN firstD wishes wants wantN wantD actions needs needTime needOf needHow needN needD changes changeTime changeOf changeHow changeN changeD lastOf lastN lastD steps stepAction startN startD lengthN lengthD rows row tried triedAction triedRows triedRow times unit firstFacts firstN firstD oldFacts oldN oldD point judged fault faultPoint toldFacts toldN toldD outN outD pointN pointD gone now leastN leastD greatestN greatestD events post) := by
  refine Cg.of (Nat.le_of_ble_eq_true rfl) ?_
  change Rg _ _ _ _ 0 [(0, .ref 168)] [] _ _ _
  refine Rg.step 1 F_Mo_beginState_0 rfl (fun _ => rfl) ?_
  refine Rg.step 2 F_Mo_beginState_1 rfl (fun _ => rfl) ?_
  refine Rg.toM ((kR_facts (mix_Z firstFacts facts)).trans ((kR_numN (mix_L firstN numN)).trans (kR_numD (mix_L firstD numD)))) ?_
  exact Rg.frM (kR_facts (mix0_Z firstFacts facts)) (Rg.weak (beginState_l1 hp 16 0 (by omega) (by omega)) (by simp [lput1, lput2, Value.category, fi0, fi1, fi2, fi3] <;> first | rfl | exact ⟨rfl, rfl⟩) (by simp [lput1, lput2, Value.category, fi0, fi1, fi2, fi3] <;> first | rfl | exact ⟨rfl, rfl⟩))
theorem keepState_l2 {d n0 : Nat} (hp : pre.length = 168) : ∀ (n : Nat) (k : Int), k + n = 8 → 0 ≤ k → Rg false d m_Mo_keepState n0 28 [(1, .int (iI k)), (0, .ref 168)] [] (MR pre code amountN amountD momentN momentD epsilonN epsilonD firstFacts firstN firstD wishes wants wantN wantD actions needs needTime needOf needHow needN needD changes changeTime changeOf changeHow changeN changeD lastOf lastN lastD steps stepAction startN startD lengthN lengthD rows row tried triedAction triedRows triedRow times unit facts numN numD oldFacts (mix k numN oldN) (mix k numD oldD) point judged fault faultPoint toldFacts toldN toldD outN outD pointN pointD gone now leastN leastD greatestN greatestD events post) (.inl none) (MR pre code amountN amountD momentN momentD epsilonN epsilonD firstFacts firstN firstD wishes wants wantN wantD actions needs needTime needOf needHow needN needD changes changeTime changeOf changeHow changeN changeD lastOf lastN lastD steps stepAction startN startD lengthN lengthD rows row tried triedAction triedRows triedRow times unit facts numN numD oldFacts (mix 8 numN oldN) (mix 8 numD oldD) point judged fault faultPoint toldFacts toldN toldD outN outD pointN pointD gone now leastN leastD greatestN greatestD events post) := by
  intro n
  induction n with
  | zero =>
    intro k hk hk2
    have hk : k = 8 := by omega
    subst hk
    refine Rg.step 29 F_Mo_keepState_28 rfl (fun _ => rfl) ?_
    refine Rg.bip 31 F_Mo_keepState_29 rfl rfl ?_
    refine Rg.icgeI 64 34 F_Mo_keepState_31 rfl rfl (by omega) (by omega) (fun _ => ?_) (fun h31 => by omega)
    exact Rg.retV F_Mo_keepState_64 rfl rfl
  | succ n ih =>
    intro k hk hk2
    refine Rg.step 29 F_Mo_keepState_28 rfl (fun _ => rfl) ?_
    refine Rg.bip 31 F_Mo_keepState_29 rfl rfl ?_
    refine Rg.icgeI 64 34 F_Mo_keepState_31 rfl rfl (by omega) (by omega) (fun h31 => by omega) (fun _ => ?_)
    refine Rg.step 35 F_Mo_keepState_34 rfl (fun _ => rfl) ?_
    refine Rg.getf 38 F_Mo_keepState_35 rfl rF_26_132 (gM hp) rfl ?_
    refine Rg.step 39 F_Mo_keepState_38 rfl (fun _ => rfl) ?_
    refine Rg.step 40 F_Mo_keepState_39 rfl (fun _ => rfl) ?_
    refine Rg.getf 43 F_Mo_keepState_40 rfl rF_26_123 (gM hp) rfl ?_
    refine Rg.step 44 F_Mo_keepState_43 rfl (fun _ => rfl) ?_
    refine Rg.lld 45 F_Mo_keepState_44 rfl (gR_numN hp) (by omega) (by decide) ?_
    refine Rg.lst 46 F_Mo_keepState_45 rfl (gR_oldN hp) (by decide) (sR_oldN hp) (by omega) (by decide) ?_
    refine Rg.step 47 F_Mo_keepState_46 rfl (fun _ => rfl) ?_
    refine Rg.getf 50 F_Mo_keepState_47 rfl rF_26_135 (gM hp) rfl ?_
    refine Rg.step 51 F_Mo_keepState_50 rfl (fun _ => rfl) ?_
    refine Rg.step 52 F_Mo_keepState_51 rfl (fun _ => rfl) ?_
    refine Rg.getf 55 F_Mo_keepState_52 rfl rF_26_126 (gM hp) rfl ?_
    refine Rg.step 56 F_Mo_keepState_55 rfl (fun _ => rfl) ?_
    refine Rg.lld 57 F_Mo_keepState_56 rfl (gR_numD hp) (by omega) (by decide) ?_
    refine Rg.lst 58 F_Mo_keepState_57 rfl (gR_oldD hp) (by decide) (sR_oldD hp) (by omega) (by decide) ?_
    refine Rg.inc 61 F_Mo_keepState_58 rfl rfl (by decide) ?_
    refine Rg.step 28 F_Mo_keepState_61 rfl (fun _ => rfl) ?_
    rw [mix_up, mix_up]
    exact Rg.weak (ih (k + 1) (by omega) (by omega)) (by simp [lput1, lput2, Value.category, fi0, fi1, fi2, fi3] <;> first | rfl | exact ⟨rfl, rfl⟩) (by simp [lput1, lput2, Value.category, fi0, fi1, fi2, fi3] <;> first | rfl | exact ⟨rfl, rfl⟩)
theorem keepState_l1 {d n0 : Nat} (hp : pre.length = 168) : ∀ (n : Nat) (k : Int), k + n = 16 → 0 ≤ k → Rg false d m_Mo_keepState n0 2 [(1, .int (iI k)), (0, .ref 168)] [] (MR pre code amountN amountD momentN momentD epsilonN epsilonD firstFacts firstN firstD wishes wants wantN wantD actions needs needTime needOf needHow needN needD changes changeTime changeOf changeHow changeN changeD lastOf lastN lastD steps stepAction startN startD lengthN lengthD rows row tried triedAction triedRows triedRow times unit facts numN numD (mix k facts oldFacts) oldN oldD point judged fault faultPoint toldFacts toldN toldD outN outD pointN pointD gone now leastN leastD greatestN greatestD events post) (.inl none) (MR pre code amountN amountD momentN momentD epsilonN epsilonD firstFacts firstN firstD wishes wants wantN wantD actions needs needTime needOf needHow needN needD changes changeTime changeOf changeHow changeN changeD lastOf lastN lastD steps stepAction startN startD lengthN lengthD rows row tried triedAction triedRows triedRow times unit facts numN numD (mix 16 facts oldFacts) (mix 8 numN oldN) (mix 8 numD oldD) point judged fault faultPoint toldFacts toldN toldD outN outD pointN pointD gone now leastN leastD greatestN greatestD events post) := by
  intro n
  induction n with
  | zero =>
    intro k hk hk2
    have hk : k = 16 := by omega
    subst hk
    refine Rg.step 3 F_Mo_keepState_2 rfl (fun _ => rfl) ?_
    refine Rg.bip 5 F_Mo_keepState_3 rfl rfl ?_
    refine Rg.icgeI 26 8 F_Mo_keepState_5 rfl rfl (by omega) (by omega) (fun _ => ?_) (fun h5 => by omega)
    refine Rg.step 27 F_Mo_keepState_26 rfl (fun _ => rfl) ?_
    refine Rg.step 28 F_Mo_keepState_27 rfl (fun _ => rfl) ?_
    exact Rg.frM ((kR_oldN (mix0_L numN oldN)).trans (kR_oldD (mix0_L numD oldD))) (Rg.weak (keepState_l2 hp 8 0 (by omega) (by omega)) (by simp [lput1, lput2, Value.category, fi0, fi1, fi2, fi3] <;> first | rfl | exact ⟨rfl, rfl⟩) (by simp [lput1, lput2, Value.category, fi0, fi1, fi2, fi3] <;> first | rfl | exact ⟨rfl, rfl⟩))
  | succ n ih =>
    intro k hk hk2
    refine Rg.step 3 F_Mo_keepState_2 rfl (fun _ => rfl) ?_
    refine Rg.bip 5 F_Mo_keepState_3 rfl rfl ?_
    refine Rg.icgeI 26 8 F_Mo_keepState_5 rfl rfl (by omega) (by omega) (fun h5 => by omega) (fun _ => ?_)
    refine Rg.step 9 F_Mo_keepState_8 rfl (fun _ => rfl) ?_
    refine Rg.getf 12 F_Mo_keepState_9 rfl rF_26_129 (gM hp) rfl ?_
    refine Rg.step 13 F_Mo_keepState_12 rfl (fun _ => rfl) ?_
    refine Rg.step 14 F_Mo_keepState_13 rfl (fun _ => rfl) ?_
    refine Rg.getf 17 F_Mo_keepState_14 rfl rF_26_120 (gM hp) rfl ?_
    refine Rg.step 18 F_Mo_keepState_17 rfl (fun _ => rfl) ?_
    refine Rg.zld 19 F_Mo_keepState_18 rfl (gR_facts hp) (by omega) (by decide) ?_
    refine Rg.zst 20 F_Mo_keepState_19 rfl (gR_oldFacts hp) (by decide) (sR_oldFacts hp) (by omega) (by decide) ?_
    refine Rg.inc 23 F_Mo_keepState_20 rfl rfl (by decide) ?_
    refine Rg.step 2 F_Mo_keepState_23 rfl (fun _ => rfl) ?_
    rw [mix_up]
    exact Rg.weak (ih (k + 1) (by omega) (by omega)) (by simp [lput1, lput2, Value.category, fi0, fi1, fi2, fi3] <;> first | rfl | exact ⟨rfl, rfl⟩) (by simp [lput1, lput2, Value.category, fi0, fi1, fi2, fi3] <;> first | rfl | exact ⟨rfl, rfl⟩)
theorem c_Mo_keepState {d : Nat}  (hp : pre.length = 168) : Cg false d m_Mo_keepState [.ref 168] (MR pre code amountN amountD momentN momentD epsilonN epsilonD firstFacts firstN firstD wishes wants wantN wantD actions needs needTime needOf needHow needN needD changes changeTime changeOf changeHow changeN changeD lastOf lastN lastD steps stepAction startN startD lengthN lengthD rows row tried triedAction triedRows triedRow times unit facts numN numD oldFacts oldN oldD point judged fault faultPoint toldFacts toldN toldD outN outD pointN pointD gone now leastN leastD greatestN greatestD events post) (.inl none) (MR pre code amountN amountD momentN momentD epsilonN epsilonD firstFacts firstN firstD wishes wants wantN wantD actions needs needTime needOf needHow needN needD changes changeTime changeOf changeHow changeN changeD lastOf lastN lastD steps stepAction startN startD lengthN lengthD rows row tried triedAction triedRows triedRow times unit facts numN numD facts numN numD point judged fault faultPoint toldFacts toldN toldD outN outD pointN pointD gone now leastN leastD greatestN greatestD events post) := by
  refine Cg.of (Nat.le_of_ble_eq_true rfl) ?_
  change Rg _ _ _ _ 0 [(0, .ref 168)] [] _ _ _
  refine Rg.step 1 F_Mo_keepState_0 rfl (fun _ => rfl) ?_
  refine Rg.step 2 F_Mo_keepState_1 rfl (fun _ => rfl) ?_
  refine Rg.toM ((kR_oldFacts (mix_Z facts oldFacts)).trans ((kR_oldN (mix_L numN oldN)).trans (kR_oldD (mix_L numD oldD)))) ?_
  exact Rg.frM (kR_oldFacts (mix0_Z facts oldFacts)) (Rg.weak (keepState_l1 hp 16 0 (by omega) (by omega)) (by simp [lput1, lput2, Value.category, fi0, fi1, fi2, fi3] <;> first | rfl | exact ⟨rfl, rfl⟩) (by simp [lput1, lput2, Value.category, fi0, fi1, fi2, fi3] <;> first | rfl | exact ⟨rfl, rfl⟩))
theorem oldState_l2 {d n0 : Nat} (hp : pre.length = 168) : ∀ (n : Nat) (k : Int), k + n = 8 → 0 ≤ k → Rg false d m_Mo_oldState n0 28 [(1, .int (iI k)), (0, .ref 168)] [] (MR pre code amountN amountD momentN momentD epsilonN epsilonD firstFacts firstN firstD wishes wants wantN wantD actions needs needTime needOf needHow needN needD changes changeTime changeOf changeHow changeN changeD lastOf lastN lastD steps stepAction startN startD lengthN lengthD rows row tried triedAction triedRows triedRow times unit facts (mix k oldN numN) (mix k oldD numD) oldFacts oldN oldD point judged fault faultPoint toldFacts toldN toldD outN outD pointN pointD gone now leastN leastD greatestN greatestD events post) (.inl none) (MR pre code amountN amountD momentN momentD epsilonN epsilonD firstFacts firstN firstD wishes wants wantN wantD actions needs needTime needOf needHow needN needD changes changeTime changeOf changeHow changeN changeD lastOf lastN lastD steps stepAction startN startD lengthN lengthD rows row tried triedAction triedRows triedRow times unit facts (mix 8 oldN numN) (mix 8 oldD numD) oldFacts oldN oldD point judged fault faultPoint toldFacts toldN toldD outN outD pointN pointD gone now leastN leastD greatestN greatestD events post) := by
  intro n
  induction n with
  | zero =>
    intro k hk hk2
    have hk : k = 8 := by omega
    subst hk
    refine Rg.step 29 F_Mo_oldState_28 rfl (fun _ => rfl) ?_
    refine Rg.bip 31 F_Mo_oldState_29 rfl rfl ?_
    refine Rg.icgeI 64 34 F_Mo_oldState_31 rfl rfl (by omega) (by omega) (fun _ => ?_) (fun h31 => by omega)
    exact Rg.retV F_Mo_oldState_64 rfl rfl
  | succ n ih =>
    intro k hk hk2
    refine Rg.step 29 F_Mo_oldState_28 rfl (fun _ => rfl) ?_
    refine Rg.bip 31 F_Mo_oldState_29 rfl rfl ?_
    refine Rg.icgeI 64 34 F_Mo_oldState_31 rfl rfl (by omega) (by omega) (fun h31 => by omega) (fun _ => ?_)
    refine Rg.step 35 F_Mo_oldState_34 rfl (fun _ => rfl) ?_
    refine Rg.getf 38 F_Mo_oldState_35 rfl rF_26_123 (gM hp) rfl ?_
    refine Rg.step 39 F_Mo_oldState_38 rfl (fun _ => rfl) ?_
    refine Rg.step 40 F_Mo_oldState_39 rfl (fun _ => rfl) ?_
    refine Rg.getf 43 F_Mo_oldState_40 rfl rF_26_132 (gM hp) rfl ?_
    refine Rg.step 44 F_Mo_oldState_43 rfl (fun _ => rfl) ?_
    refine Rg.lld 45 F_Mo_oldState_44 rfl (gR_oldN hp) (by omega) (by decide) ?_
    refine Rg.lst 46 F_Mo_oldState_45 rfl (gR_numN hp) (by decide) (sR_numN hp) (by omega) (by decide) ?_
    refine Rg.step 47 F_Mo_oldState_46 rfl (fun _ => rfl) ?_
    refine Rg.getf 50 F_Mo_oldState_47 rfl rF_26_126 (gM hp) rfl ?_
    refine Rg.step 51 F_Mo_oldState_50 rfl (fun _ => rfl) ?_
    refine Rg.step 52 F_Mo_oldState_51 rfl (fun _ => rfl) ?_
    refine Rg.getf 55 F_Mo_oldState_52 rfl rF_26_135 (gM hp) rfl ?_
    refine Rg.step 56 F_Mo_oldState_55 rfl (fun _ => rfl) ?_
    refine Rg.lld 57 F_Mo_oldState_56 rfl (gR_oldD hp) (by omega) (by decide) ?_
    refine Rg.lst 58 F_Mo_oldState_57 rfl (gR_numD hp) (by decide) (sR_numD hp) (by omega) (by decide) ?_
    refine Rg.inc 61 F_Mo_oldState_58 rfl rfl (by decide) ?_
    refine Rg.step 28 F_Mo_oldState_61 rfl (fun _ => rfl) ?_
    rw [mix_up, mix_up]
    exact Rg.weak (ih (k + 1) (by omega) (by omega)) (by simp [lput1, lput2, Value.category, fi0, fi1, fi2, fi3] <;> first | rfl | exact ⟨rfl, rfl⟩) (by simp [lput1, lput2, Value.category, fi0, fi1, fi2, fi3] <;> first | rfl | exact ⟨rfl, rfl⟩)
theorem oldState_l1 {d n0 : Nat} (hp : pre.length = 168) : ∀ (n : Nat) (k : Int), k + n = 16 → 0 ≤ k → Rg false d m_Mo_oldState n0 2 [(1, .int (iI k)), (0, .ref 168)] [] (MR pre code amountN amountD momentN momentD epsilonN epsilonD firstFacts firstN firstD wishes wants wantN wantD actions needs needTime needOf needHow needN needD changes changeTime changeOf changeHow changeN changeD lastOf lastN lastD steps stepAction startN startD lengthN lengthD rows row tried triedAction triedRows triedRow times unit (mix k oldFacts facts) numN numD oldFacts oldN oldD point judged fault faultPoint toldFacts toldN toldD outN outD pointN pointD gone now leastN leastD greatestN greatestD events post) (.inl none) (MR pre code amountN amountD momentN momentD epsilonN epsilonD firstFacts firstN firstD wishes wants wantN wantD actions needs needTime needOf needHow needN needD changes changeTime changeOf changeHow changeN changeD lastOf lastN lastD steps stepAction startN startD lengthN lengthD rows row tried triedAction triedRows triedRow times unit (mix 16 oldFacts facts) (mix 8 oldN numN) (mix 8 oldD numD) oldFacts oldN oldD point judged fault faultPoint toldFacts toldN toldD outN outD pointN pointD gone now leastN leastD greatestN greatestD events post) := by
  intro n
  induction n with
  | zero =>
    intro k hk hk2
    have hk : k = 16 := by omega
    subst hk
    refine Rg.step 3 F_Mo_oldState_2 rfl (fun _ => rfl) ?_
    refine Rg.bip 5 F_Mo_oldState_3 rfl rfl ?_
    refine Rg.icgeI 26 8 F_Mo_oldState_5 rfl rfl (by omega) (by omega) (fun _ => ?_) (fun h5 => by omega)
    refine Rg.step 27 F_Mo_oldState_26 rfl (fun _ => rfl) ?_
    refine Rg.step 28 F_Mo_oldState_27 rfl (fun _ => rfl) ?_
    exact Rg.frM ((kR_numN (mix0_L oldN numN)).trans (kR_numD (mix0_L oldD numD))) (Rg.weak (oldState_l2 hp 8 0 (by omega) (by omega)) (by simp [lput1, lput2, Value.category, fi0, fi1, fi2, fi3] <;> first | rfl | exact ⟨rfl, rfl⟩) (by simp [lput1, lput2, Value.category, fi0, fi1, fi2, fi3] <;> first | rfl | exact ⟨rfl, rfl⟩))
  | succ n ih =>
    intro k hk hk2
    refine Rg.step 3 F_Mo_oldState_2 rfl (fun _ => rfl) ?_
    refine Rg.bip 5 F_Mo_oldState_3 rfl rfl ?_
    refine Rg.icgeI 26 8 F_Mo_oldState_5 rfl rfl (by omega) (by omega) (fun h5 => by omega) (fun _ => ?_)
    refine Rg.step 9 F_Mo_oldState_8 rfl (fun _ => rfl) ?_
    refine Rg.getf 12 F_Mo_oldState_9 rfl rF_26_120 (gM hp) rfl ?_
    refine Rg.step 13 F_Mo_oldState_12 rfl (fun _ => rfl) ?_
    refine Rg.step 14 F_Mo_oldState_13 rfl (fun _ => rfl) ?_
    refine Rg.getf 17 F_Mo_oldState_14 rfl rF_26_129 (gM hp) rfl ?_
    refine Rg.step 18 F_Mo_oldState_17 rfl (fun _ => rfl) ?_
    refine Rg.zld 19 F_Mo_oldState_18 rfl (gR_oldFacts hp) (by omega) (by decide) ?_
    refine Rg.zst 20 F_Mo_oldState_19 rfl (gR_facts hp) (by decide) (sR_facts hp) (by omega) (by decide) ?_
    refine Rg.inc 23 F_Mo_oldState_20 rfl rfl (by decide) ?_
    refine Rg.step 2 F_Mo_oldState_23 rfl (fun _ => rfl) ?_
    rw [mix_up]
    exact Rg.weak (ih (k + 1) (by omega) (by omega)) (by simp [lput1, lput2, Value.category, fi0, fi1, fi2, fi3] <;> first | rfl | exact ⟨rfl, rfl⟩) (by simp [lput1, lput2, Value.category, fi0, fi1, fi2, fi3] <;> first | rfl | exact ⟨rfl, rfl⟩)
theorem c_Mo_oldState {d : Nat}  (hp : pre.length = 168) : Cg false d m_Mo_oldState [.ref 168] (MR pre code amountN amountD momentN momentD epsilonN epsilonD firstFacts firstN firstD wishes wants wantN wantD actions needs needTime needOf needHow needN needD changes changeTime changeOf changeHow changeN changeD lastOf lastN lastD steps stepAction startN startD lengthN lengthD rows row tried triedAction triedRows triedRow times unit facts numN numD oldFacts oldN oldD point judged fault faultPoint toldFacts toldN toldD outN outD pointN pointD gone now leastN leastD greatestN greatestD events post) (.inl none) (MR pre code amountN amountD momentN momentD epsilonN epsilonD firstFacts firstN firstD wishes wants wantN wantD actions needs needTime needOf needHow needN needD changes changeTime changeOf changeHow changeN changeD lastOf lastN lastD steps stepAction startN startD lengthN lengthD rows row tried triedAction triedRows triedRow times unit oldFacts oldN oldD oldFacts oldN oldD point judged fault faultPoint toldFacts toldN toldD outN outD pointN pointD gone now leastN leastD greatestN greatestD events post) := by
  refine Cg.of (Nat.le_of_ble_eq_true rfl) ?_
  change Rg _ _ _ _ 0 [(0, .ref 168)] [] _ _ _
  refine Rg.step 1 F_Mo_oldState_0 rfl (fun _ => rfl) ?_
  refine Rg.step 2 F_Mo_oldState_1 rfl (fun _ => rfl) ?_
  refine Rg.toM ((kR_facts (mix_Z oldFacts facts)).trans ((kR_numN (mix_L oldN numN)).trans (kR_numD (mix_L oldD numD)))) ?_
  exact Rg.frM (kR_facts (mix0_Z oldFacts facts)) (Rg.weak (oldState_l1 hp 16 0 (by omega) (by omega)) (by simp [lput1, lput2, Value.category, fi0, fi1, fi2, fi3] <;> first | rfl | exact ⟨rfl, rfl⟩) (by simp [lput1, lput2, Value.category, fi0, fi1, fi2, fi3] <;> first | rfl | exact ⟨rfl, rfl⟩))
theorem cmpF_b (a b c f : Int) : -1 ≤ cmpF a b c f ∧ cmpF a b c f ≤ 1 := by
  unfold cmpF
  split
  · omega
  · split <;> omega
theorem c_Mo_isSo {d : Nat}  (hp : pre.length = 168) (hw : WT epsilonN epsilonD wishes wants wantN wantD actions needs needTime needOf needHow needN needD changes changeTime changeOf changeHow changeN changeD lastOf lastN lastD firstN firstD) (wN : WN numN numD) {k : Int} (h1 : 0 ≤ k ∧ k < 96) (h2 : 0 < needD k) : Cg true (d + 2) m_Mo_isSo [.ref 168, .int (iI k)] (MR pre code amountN amountD momentN momentD epsilonN epsilonD firstFacts firstN firstD wishes wants wantN wantD actions needs needTime needOf needHow needN needD changes changeTime changeOf changeHow changeN changeD lastOf lastN lastD steps stepAction startN startD lengthN lengthD rows row tried triedAction triedRows triedRow times unit facts numN numD oldFacts oldN oldD point judged fault faultPoint toldFacts toldN toldD outN outD pointN pointD gone now leastN leastD greatestN greatestD events post) (.inl (some (.int (bP (so needOf needHow needN needD facts numN numD k))))) (MR pre code amountN amountD momentN momentD epsilonN epsilonD firstFacts firstN firstD wishes wants wantN wantD actions needs needTime needOf needHow needN needD changes changeTime changeOf changeHow changeN changeD lastOf lastN lastD steps stepAction startN startD lengthN lengthD rows row tried triedAction triedRows triedRow times unit facts numN numD oldFacts oldN oldD point judged fault faultPoint toldFacts toldN toldD outN outD pointN pointD gone now leastN leastD greatestN greatestD events post) := by
  obtain ⟨-, -, -, -, -, -, wnT, wnO, wnH, wnN, -, -, -, -, -, -, -, -, -, -, -⟩ := id hw
  have d2 := wnO k
  have d3 := wnH k
  have d4 := wnN k
  have d5 := wN (needOf k)
  have d6 := cmpF_b (numN (needOf k)) (numD (needOf k)) (needN k) (needD k)
  refine Cg.of (Nat.le_of_ble_eq_true rfl) ?_
  change Rg _ _ _ _ 0 [(0, .ref 168), (1, .int (iI k))] [] _ _ _
  refine Rg.step 1 F_Mo_isSo_0 rfl (fun _ => rfl) ?_
  refine Rg.getf 4 F_Mo_isSo_1 rfl rF_26_54 (gM hp) rfl ?_
  refine Rg.step 5 F_Mo_isSo_4 rfl (fun _ => rfl) ?_
  refine Rg.ild 6 F_Mo_isSo_5 rfl (gR_needOf hp) (by omega) (by decide) ?_
  refine Rg.step 7 F_Mo_isSo_6 rfl (fun _ => rfl) ?_
  refine Rg.step 8 F_Mo_isSo_7 rfl (fun _ => rfl) ?_
  refine Rg.getf 11 F_Mo_isSo_8 rfl rF_26_57 (gM hp) rfl ?_
  refine Rg.step 12 F_Mo_isSo_11 rfl (fun _ => rfl) ?_
  refine Rg.ild 13 F_Mo_isSo_12 rfl (gR_needHow hp) (by omega) (by decide) ?_
  refine Rg.bip 15 F_Mo_isSo_13 rfl rfl ?_
  refine Rg.icleI 49 18 F_Mo_isSo_15 rfl rfl (by omega) (by omega) (fun h15 => ?_) (fun h15 => ?_)
  · refine Rg.step 50 F_Mo_isSo_49 rfl (fun _ => rfl) ?_
    refine Rg.getf 53 F_Mo_isSo_50 rfl rF_26_57 (gM hp) rfl ?_
    refine Rg.step 54 F_Mo_isSo_53 rfl (fun _ => rfl) ?_
    refine Rg.ild 55 F_Mo_isSo_54 rfl (gR_needHow hp) (by omega) (by decide) ?_
    refine Rg.step 56 F_Mo_isSo_55 rfl (fun _ => rfl) ?_
    refine Rg.getf 59 F_Mo_isSo_56 rfl rF_26_123 (gM hp) rfl ?_
    refine Rg.step 60 F_Mo_isSo_59 rfl (fun _ => rfl) ?_
    refine Rg.lld 61 F_Mo_isSo_60 rfl (gR_numN hp) (by omega) (by decide) ?_
    refine Rg.step 62 F_Mo_isSo_61 rfl (fun _ => rfl) ?_
    refine Rg.getf 65 F_Mo_isSo_62 rfl rF_26_126 (gM hp) rfl ?_
    refine Rg.step 66 F_Mo_isSo_65 rfl (fun _ => rfl) ?_
    refine Rg.lld 67 F_Mo_isSo_66 rfl (gR_numD hp) (by omega) (by decide) ?_
    refine Rg.step 68 F_Mo_isSo_67 rfl (fun _ => rfl) ?_
    refine Rg.getf 71 F_Mo_isSo_68 rfl rF_26_60 (gM hp) rfl ?_
    refine Rg.step 72 F_Mo_isSo_71 rfl (fun _ => rfl) ?_
    refine Rg.lld 73 F_Mo_isSo_72 rfl (gR_needN hp) (by omega) (by decide) ?_
    refine Rg.step 74 F_Mo_isSo_73 rfl (fun _ => rfl) ?_
    refine Rg.getf 77 F_Mo_isSo_74 rfl rF_26_63 (gM hp) rfl ?_
    refine Rg.step 78 F_Mo_isSo_77 rfl (fun _ => rfl) ?_
    refine Rg.lld 79 F_Mo_isSo_78 rfl (gR_needD hp) (by omega) (by decide) ?_
    refine Rg.call 82 F_Mo_isSo_79 rfl (one_S (by decide +kernel) rM_26_264 (by decide) (by simp) rfl rfl) (Nat.le_of_ble_eq_true rfl) (Cg.any (c_Mo_order (by omega) (by omega) (by omega) (by omega) (by omega) (by omega))) ?_
    refine Rg.call 85 F_Mo_isSo_82 rfl (one_S (by decide +kernel) rM_26_268 (by decide) (by simp) rfl rfl) (Nat.le_of_ble_eq_true rfl) (Cg.any (c_Mo_compares (by omega) (by omega))) ?_
    exact Rg.retP F_Mo_isSo_85 rfl ⟨fun z => Or.inr ⟨by omega, z⟩, fun z => z.elim (fun y => absurd y.1 (by omega)) (fun y => y.2)⟩ rfl
  · refine Rg.step 19 F_Mo_isSo_18 rfl (fun _ => rfl) ?_
    refine Rg.getf 22 F_Mo_isSo_19 rfl rF_26_120 (gM hp) rfl ?_
    refine Rg.step 23 F_Mo_isSo_22 rfl (fun _ => rfl) ?_
    refine Rg.zld 24 F_Mo_isSo_23 rfl (gR_facts hp) (by omega) (by decide) ?_
    refine Rg.step 25 F_Mo_isSo_24 rfl (fun _ => rfl) ?_
    refine Rg.getf 28 F_Mo_isSo_25 rfl rF_26_57 (gM hp) rfl ?_
    refine Rg.step 29 F_Mo_isSo_28 rfl (fun _ => rfl) ?_
    refine Rg.ild 30 F_Mo_isSo_29 rfl (gR_needHow hp) (by omega) (by decide) ?_
    refine Rg.bip 32 F_Mo_isSo_30 rfl rfl ?_
    refine Rg.icneI 39 35 F_Mo_isSo_32 rfl rfl (by omega) (by omega) (fun h32 => ?_) (fun h32 => ?_)
    · refine Rg.cP0 (B := (needHow k = 11)) 40 F_Mo_isSo_39 rfl (by omega) ?_
      refine Rg.icneP 47 43 F_Mo_isSo_40 rfl rfl (fun h40 => ?_) (fun h40 => ?_)
      · refine Rg.step 48 F_Mo_isSo_47 rfl (fun _ => rfl) ?_
        exact Rg.ret0 F_Mo_isSo_48 rfl (fun z => z.elim (fun y => h40 y.2) (fun y => y.1 (by omega))) rfl
      · refine Rg.step 44 F_Mo_isSo_43 rfl (fun _ => rfl) ?_
        refine Rg.step 48 F_Mo_isSo_44 rfl (fun _ => rfl) ?_
        exact Rg.ret1 F_Mo_isSo_48 rfl (Or.inl ⟨by omega, h40⟩) rfl
    · refine Rg.cP1 (B := (needHow k = 11)) 36 F_Mo_isSo_35 rfl (by omega) ?_
      refine Rg.step 40 F_Mo_isSo_36 rfl (fun _ => rfl) ?_
      refine Rg.icneP 47 43 F_Mo_isSo_40 rfl rfl (fun h40 => ?_) (fun h40 => ?_)
      · refine Rg.step 48 F_Mo_isSo_47 rfl (fun _ => rfl) ?_
        exact Rg.ret0 F_Mo_isSo_48 rfl (fun z => z.elim (fun y => h40 y.2) (fun y => y.1 (by omega))) rfl
      · refine Rg.step 44 F_Mo_isSo_43 rfl (fun _ => rfl) ?_
        refine Rg.step 48 F_Mo_isSo_44 rfl (fun _ => rfl) ?_
        exact Rg.ret1 F_Mo_isSo_48 rfl (Or.inl ⟨by omega, h40⟩) rfl
theorem fit_loop {d n0 : Nat} (hp : pre.length = 168) (hw : WT epsilonN epsilonD wishes wants wantN wantD actions needs needTime needOf needHow needN needD changes changeTime changeOf changeHow changeN changeD lastOf lastN lastD firstN firstD) (wN : WN numN numD) {s t : Int} (ha : 0 ≤ triedAction s ∧ triedAction s < actions) (ht : -2147483648 ≤ t ∧ t < 2147483648) : ∀ (n : Nat) (k : Int), k + n = 8 * (triedAction s) + needs (triedAction s) → 8 * (triedAction s) ≤ k → Rg true (d + 3) m_Mo_isFit n0 16 [(5, .int (iI k)), (4, .int (bP (∀ j, 8 * (triedAction s) ≤ j → j < k → needTime j = t → so needOf needHow needN needD facts numN numD j))), (3, .int (iI (triedAction s))), (0, .ref 168), (1, .int (iI s)), (2, .int (iI t))] [] (MR pre code amountN amountD momentN momentD epsilonN epsilonD firstFacts firstN firstD wishes wants wantN wantD actions needs needTime needOf needHow needN needD changes changeTime changeOf changeHow changeN changeD lastOf lastN lastD steps stepAction startN startD lengthN lengthD rows row tried triedAction triedRows triedRow times unit facts numN numD oldFacts oldN oldD point judged fault faultPoint toldFacts toldN toldD outN outD pointN pointD gone now leastN leastD greatestN greatestD events post) (.inl (some (.int (bP (fit needs needTime needOf needHow needN needD facts numN numD (triedAction s) t))))) (MR pre code amountN amountD momentN momentD epsilonN epsilonD firstFacts firstN firstD wishes wants wantN wantD actions needs needTime needOf needHow needN needD changes changeTime changeOf changeHow changeN changeD lastOf lastN lastD steps stepAction startN startD lengthN lengthD rows row tried triedAction triedRows triedRow times unit facts numN numD oldFacts oldN oldD point judged fault faultPoint toldFacts toldN toldD outN outD pointN pointD gone now leastN leastD greatestN greatestD events post) := by
  intro n
  obtain ⟨-, -, -, -, wA, wn, wnT, -, -, -, wnD, -, -, -, -, -, -, -, -, -, -⟩ := id hw
  have c1 := wn (triedAction s)
  induction n with
  | zero =>
    intro k hk hk2
    have hk : k = 8 * (triedAction s) + needs (triedAction s) := by omega
    subst hk
    refine Rg.step 18 F_Mo_isFit_16 rfl (fun _ => rfl) ?_
    refine Rg.bip 20 F_Mo_isFit_18 rfl rfl ?_
    refine Rg.step 21 F_Mo_isFit_20 rfl (fun _ => rfl) ?_
    refine Rg.mulI 22 F_Mo_isFit_21 rfl ?_
    refine Rg.step 23 F_Mo_isFit_22 rfl (fun _ => rfl) ?_
    refine Rg.getf 26 F_Mo_isFit_23 rfl rF_26_48 (gM hp) rfl ?_
    refine Rg.step 27 F_Mo_isFit_26 rfl (fun _ => rfl) ?_
    refine Rg.ild 28 F_Mo_isFit_27 rfl (gR_needs hp) (by omega) (by decide) ?_
    refine Rg.addI 29 F_Mo_isFit_28 rfl ?_
    refine Rg.icgeI 70 32 F_Mo_isFit_29 rfl rfl (by omega) (by omega) (fun _ => ?_) (fun h29 => by omega)
    refine Rg.step 72 F_Mo_isFit_70 rfl (fun _ => rfl) ?_
    exact Rg.retP F_Mo_isFit_72 rfl Iff.rfl rfl
  | succ n ih =>
    intro k hk hk2
    have d1 := wnT k
    refine Rg.step 18 F_Mo_isFit_16 rfl (fun _ => rfl) ?_
    refine Rg.bip 20 F_Mo_isFit_18 rfl rfl ?_
    refine Rg.step 21 F_Mo_isFit_20 rfl (fun _ => rfl) ?_
    refine Rg.mulI 22 F_Mo_isFit_21 rfl ?_
    refine Rg.step 23 F_Mo_isFit_22 rfl (fun _ => rfl) ?_
    refine Rg.getf 26 F_Mo_isFit_23 rfl rF_26_48 (gM hp) rfl ?_
    refine Rg.step 27 F_Mo_isFit_26 rfl (fun _ => rfl) ?_
    refine Rg.ild 28 F_Mo_isFit_27 rfl (gR_needs hp) (by omega) (by decide) ?_
    refine Rg.addI 29 F_Mo_isFit_28 rfl ?_
    refine Rg.icgeI 70 32 F_Mo_isFit_29 rfl rfl (by omega) (by omega) (fun h29 => by omega) (fun _ => ?_)
    refine Rg.step 34 F_Mo_isFit_32 rfl (fun _ => rfl) ?_
    refine Rg.ifeqP 61 37 F_Mo_isFit_34 rfl rfl (fun h34 => ?_) (fun h34 => ?_)
    · refine Rg.cP0 (B := (∀ j, 8 * (triedAction s) ≤ j → j < (k + 1) → needTime j = t → so needOf needHow needN needD facts numN numD j)) 62 F_Mo_isFit_61 rfl (fun z => h34 ((al_succ (C := (fun j => needTime j = t → so needOf needHow needN needD facts numN numD j)) hk2).mp z).1) ?_
      refine Rg.step 64 F_Mo_isFit_62 rfl (fun _ => rfl) ?_
      refine Rg.inc 67 F_Mo_isFit_64 rfl rfl (by decide) ?_
      refine Rg.step 16 F_Mo_isFit_67 rfl (fun _ => rfl) ?_
      exact Rg.weak (ih (k + 1) (by omega) (by omega)) (by simp [lput1, lput2, Value.category, fi0, fi1, fi2, fi3] <;> first | rfl | exact ⟨rfl, rfl⟩) (by simp [lput1, lput2, Value.category, fi0, fi1, fi2, fi3] <;> first | rfl | exact ⟨rfl, rfl⟩)
    · refine Rg.step 38 F_Mo_isFit_37 rfl (fun _ => rfl) ?_
      refine Rg.getf 41 F_Mo_isFit_38 rfl rF_26_51 (gM hp) rfl ?_
      refine Rg.step 43 F_Mo_isFit_41 rfl (fun _ => rfl) ?_
      refine Rg.ild 44 F_Mo_isFit_43 rfl (gR_needTime hp) (by omega) (by decide) ?_
      refine Rg.step 45 F_Mo_isFit_44 rfl (fun _ => rfl) ?_
      refine Rg.icneI 57 48 F_Mo_isFit_45 rfl rfl (by omega) (by omega) (fun h45 => ?_) (fun h45 => ?_)
      · refine Rg.cP1 (B := (∀ j, 8 * (triedAction s) ≤ j → j < (k + 1) → needTime j = t → so needOf needHow needN needD facts numN numD j)) 58 F_Mo_isFit_57 rfl ((al_succ (C := (fun j => needTime j = t → so needOf needHow needN needD facts numN numD j)) hk2).mpr ⟨h34, fun z => absurd z h45⟩) ?_
        refine Rg.step 62 F_Mo_isFit_58 rfl (fun _ => rfl) ?_
        refine Rg.step 64 F_Mo_isFit_62 rfl (fun _ => rfl) ?_
        refine Rg.inc 67 F_Mo_isFit_64 rfl rfl (by decide) ?_
        refine Rg.step 16 F_Mo_isFit_67 rfl (fun _ => rfl) ?_
        exact Rg.weak (ih (k + 1) (by omega) (by omega)) (by simp [lput1, lput2, Value.category, fi0, fi1, fi2, fi3] <;> first | rfl | exact ⟨rfl, rfl⟩) (by simp [lput1, lput2, Value.category, fi0, fi1, fi2, fi3] <;> first | rfl | exact ⟨rfl, rfl⟩)
      · refine Rg.step 49 F_Mo_isFit_48 rfl (fun _ => rfl) ?_
        refine Rg.step 51 F_Mo_isFit_49 rfl (fun _ => rfl) ?_
        refine Rg.call 54 F_Mo_isFit_51 rfl (one_V rM_26_271 (by decide) (by simp) rfl rfl (gM hp) rfl) (Nat.le_of_ble_eq_true rfl) (Cg.any (c_Mo_isSo hp hw wN (by omega) (wnD _ _ ha.1 ha.2 (by omega) (by omega)))) ?_
        refine Rg.ifeqP 61 57 F_Mo_isFit_54 rfl rfl (fun h54 => ?_) (fun h54 => ?_)
        · refine Rg.cP0 (B := (∀ j, 8 * (triedAction s) ≤ j → j < (k + 1) → needTime j = t → so needOf needHow needN needD facts numN numD j)) 62 F_Mo_isFit_61 rfl (fun z => h54 (((al_succ (C := (fun j => needTime j = t → so needOf needHow needN needD facts numN numD j)) hk2).mp z).2 h45)) ?_
          refine Rg.step 64 F_Mo_isFit_62 rfl (fun _ => rfl) ?_
          refine Rg.inc 67 F_Mo_isFit_64 rfl rfl (by decide) ?_
          refine Rg.step 16 F_Mo_isFit_67 rfl (fun _ => rfl) ?_
          exact Rg.weak (ih (k + 1) (by omega) (by omega)) (by simp [lput1, lput2, Value.category, fi0, fi1, fi2, fi3] <;> first | rfl | exact ⟨rfl, rfl⟩) (by simp [lput1, lput2, Value.category, fi0, fi1, fi2, fi3] <;> first | rfl | exact ⟨rfl, rfl⟩)
        · refine Rg.cP1 (B := (∀ j, 8 * (triedAction s) ≤ j → j < (k + 1) → needTime j = t → so needOf needHow needN needD facts numN numD j)) 58 F_Mo_isFit_57 rfl ((al_succ (C := (fun j => needTime j = t → so needOf needHow needN needD facts numN numD j)) hk2).mpr ⟨h34, fun _ => h54⟩) ?_
          refine Rg.step 62 F_Mo_isFit_58 rfl (fun _ => rfl) ?_
          refine Rg.step 64 F_Mo_isFit_62 rfl (fun _ => rfl) ?_
          refine Rg.inc 67 F_Mo_isFit_64 rfl rfl (by decide) ?_
          refine Rg.step 16 F_Mo_isFit_67 rfl (fun _ => rfl) ?_
          exact Rg.weak (ih (k + 1) (by omega) (by omega)) (by simp [lput1, lput2, Value.category, fi0, fi1, fi2, fi3] <;> first | rfl | exact ⟨rfl, rfl⟩) (by simp [lput1, lput2, Value.category, fi0, fi1, fi2, fi3] <;> first | rfl | exact ⟨rfl, rfl⟩)
theorem c_Mo_isFit {d : Nat}  (hp : pre.length = 168) (hw : WT epsilonN epsilonD wishes wants wantN wantD actions needs needTime needOf needHow needN needD changes changeTime changeOf changeHow changeN changeD lastOf lastN lastD firstN firstD) (wN : WN numN numD) {s t : Int} (h1 : 0 ≤ s ∧ s < 12) (ha : 0 ≤ triedAction s ∧ triedAction s < actions) (ht : -2147483648 ≤ t ∧ t < 2147483648) : Cg true (d + 3) m_Mo_isFit [.ref 168, .int (iI s), .int (iI t)] (MR pre code amountN amountD momentN momentD epsilonN epsilonD firstFacts firstN firstD wishes wants wantN wantD actions needs needTime needOf needHow needN needD changes changeTime changeOf changeHow changeN changeD lastOf lastN lastD steps stepAction startN startD lengthN lengthD rows row tried triedAction triedRows triedRow times unit facts numN numD oldFacts oldN oldD point judged fault faultPoint toldFacts toldN toldD outN outD pointN pointD gone now leastN leastD greatestN greatestD events post) (.inl (some (.int (bP (fit needs needTime needOf needHow needN needD facts numN numD (triedAction s) t))))) (MR pre code amountN amountD momentN momentD epsilonN epsilonD firstFacts firstN firstD wishes wants wantN wantD actions needs needTime needOf needHow needN needD changes changeTime changeOf changeHow changeN changeD lastOf lastN lastD steps stepAction startN startD lengthN lengthD rows row tried triedAction triedRows triedRow times unit facts numN numD oldFacts oldN oldD point judged fault faultPoint toldFacts toldN toldD outN outD pointN pointD gone now leastN leastD greatestN greatestD events post) := by
  obtain ⟨-, -, -, -, wA, wn, -, -, -, -, -, -, -, -, -, -, -, -, -, -, -⟩ := id hw
  have c1 := wn (triedAction s)
  refine Cg.of (Nat.le_of_ble_eq_true rfl) ?_
  change Rg _ _ _ _ 0 [(0, .ref 168), (1, .int (iI s)), (2, .int (iI t))] [] _ _ _
  refine Rg.step 1 F_Mo_isFit_0 rfl (fun _ => rfl) ?_
  refine Rg.getf 4 F_Mo_isFit_1 rfl rF_26_111 (gM hp) rfl ?_
  refine Rg.step 5 F_Mo_isFit_4 rfl (fun _ => rfl) ?_
  refine Rg.ild 6 F_Mo_isFit_5 rfl (gR_triedAction hp) (by omega) (by decide) ?_
  refine Rg.step 7 F_Mo_isFit_6 rfl (fun _ => rfl) ?_
  refine Rg.cP1 (B := (∀ j, 8 * (triedAction s) ≤ j → j < (8 * (triedAction s)) → needTime j = t → so needOf needHow needN needD facts numN numD j)) 8 F_Mo_isFit_7 rfl al_zero ?_
  refine Rg.step 10 F_Mo_isFit_8 rfl (fun _ => rfl) ?_
  refine Rg.bip 12 F_Mo_isFit_10 rfl rfl ?_
  refine Rg.step 13 F_Mo_isFit_12 rfl (fun _ => rfl) ?_
  refine Rg.mulI 14 F_Mo_isFit_13 rfl ?_
  refine Rg.step 16 F_Mo_isFit_14 rfl (fun _ => rfl) ?_
  exact Rg.weak (fit_loop hp hw wN ha ht (needs (triedAction s)).toNat (8 * (triedAction s)) (by omega) (by omega)) (by simp [lput1, lput2, Value.category, fi0, fi1, fi2, fi3] <;> first | rfl | exact ⟨rfl, rfl⟩) (by simp [lput1, lput2, Value.category, fi0, fi1, fi2, fi3] <;> first | rfl | exact ⟨rfl, rfl⟩)
theorem goal_l2 {d n0 : Nat} (hp : pre.length = 168) (hw : WT epsilonN epsilonD wishes wants wantN wantD actions needs needTime needOf needHow needN needD changes changeTime changeOf changeHow changeN changeD lastOf lastN lastD firstN firstD) (wN : WN numN numD) {A : Prop} : ∀ (n : Nat) (k : Int), k + n = 8 → 0 ≤ k → Rg true (d + 2) m_Mo_isGoal n0 61 [(2, .int (iI k)), (1, .int (bP (A ∧ (∀ n, 0 ≤ n → n < k → 0 ≤ wants n → cmps (wants n) (cmpF (numN n) (numD n) (wantN n) (wantD n)))))), (0, .ref 168)] [] (MR pre code amountN amountD momentN momentD epsilonN epsilonD firstFacts firstN firstD wishes wants wantN wantD actions needs needTime needOf needHow needN needD changes changeTime changeOf changeHow changeN changeD lastOf lastN lastD steps stepAction startN startD lengthN lengthD rows row tried triedAction triedRows triedRow times unit facts numN numD oldFacts oldN oldD point judged fault faultPoint toldFacts toldN toldD outN outD pointN pointD gone now leastN leastD greatestN greatestD events post) (.inl (some (.int (bP (A ∧ (∀ n, 0 ≤ n → n < 8 → 0 ≤ wants n → cmps (wants n) (cmpF (numN n) (numD n) (wantN n) (wantD n)))))))) (MR pre code amountN amountD momentN momentD epsilonN epsilonD firstFacts firstN firstD wishes wants wantN wantD actions needs needTime needOf needHow needN needD changes changeTime changeOf changeHow changeN changeD lastOf lastN lastD steps stepAction startN startD lengthN lengthD rows row tried triedAction triedRows triedRow times unit facts numN numD oldFacts oldN oldD point judged fault faultPoint toldFacts toldN toldD outN outD pointN pointD gone now leastN leastD greatestN greatestD events post) := by
  intro n
  obtain ⟨-, -, wV, wVN, -, -, -, -, -, -, -, -, -, -, -, -, -, -, -, -, -⟩ := id hw
  induction n with
  | zero =>
    intro k hk hk2
    have hk : k = 8 := by omega
    subst hk
    refine Rg.step 62 F_Mo_isGoal_61 rfl (fun _ => rfl) ?_
    refine Rg.bip 64 F_Mo_isGoal_62 rfl rfl ?_
    refine Rg.icgeI 131 67 F_Mo_isGoal_64 rfl rfl (by omega) (by omega) (fun _ => ?_) (fun h64 => by omega)
    refine Rg.step 132 F_Mo_isGoal_131 rfl (fun _ => rfl) ?_
    exact Rg.retP F_Mo_isGoal_132 rfl Iff.rfl rfl
  | succ n ih =>
    intro k hk hk2
    have d1 := wV k
    have d2 := wVN k
    have d3 := wN k
    have d4 := cmpF_b (numN k) (numD k) (wantN k) (wantD k)
    refine Rg.step 62 F_Mo_isGoal_61 rfl (fun _ => rfl) ?_
    refine Rg.bip 64 F_Mo_isGoal_62 rfl rfl ?_
    refine Rg.icgeI 131 67 F_Mo_isGoal_64 rfl rfl (by omega) (by omega) (fun h64 => by omega) (fun _ => ?_)
    refine Rg.step 68 F_Mo_isGoal_67 rfl (fun _ => rfl) ?_
    refine Rg.ifeqP 123 71 F_Mo_isGoal_68 rfl rfl (fun h68 => ?_) (fun h68 => ?_)
    · refine Rg.cP0 (B := (A ∧ (∀ n, 0 ≤ n → n < (k + 1) → 0 ≤ wants n → cmps (wants n) (cmpF (numN n) (numD n) (wantN n) (wantD n))))) 124 F_Mo_isGoal_123 rfl (fun z => h68 ⟨z.1, ((al_succ (C := (fun n => 0 ≤ wants n → cmps (wants n) (cmpF (numN n) (numD n) (wantN n) (wantD n)))) hk2).mp z.2).1⟩) ?_
      refine Rg.step 125 F_Mo_isGoal_124 rfl (fun _ => rfl) ?_
      refine Rg.inc 128 F_Mo_isGoal_125 rfl rfl (by decide) ?_
      refine Rg.step 61 F_Mo_isGoal_128 rfl (fun _ => rfl) ?_
      exact Rg.weak (ih (k + 1) (by omega) (by omega)) (by simp [lput1, lput2, Value.category, fi0, fi1, fi2, fi3] <;> first | rfl | exact ⟨rfl, rfl⟩) (by simp [lput1, lput2, Value.category, fi0, fi1, fi2, fi3] <;> first | rfl | exact ⟨rfl, rfl⟩)
    · refine Rg.step 72 F_Mo_isGoal_71 rfl (fun _ => rfl) ?_
      refine Rg.getf 75 F_Mo_isGoal_72 rfl rF_26_39 (gM hp) rfl ?_
      refine Rg.step 76 F_Mo_isGoal_75 rfl (fun _ => rfl) ?_
      refine Rg.ild 77 F_Mo_isGoal_76 rfl (gR_wants hp) (by omega) (by decide) ?_
      refine Rg.ifltI 119 80 F_Mo_isGoal_77 rfl rfl (by omega) (fun h77 => ?_) (fun h77 => ?_)
      · refine Rg.cP1 (B := (A ∧ (∀ n, 0 ≤ n → n < (k + 1) → 0 ≤ wants n → cmps (wants n) (cmpF (numN n) (numD n) (wantN n) (wantD n))))) 120 F_Mo_isGoal_119 rfl (And.intro h68.1 ((al_succ (C := (fun n => 0 ≤ wants n → cmps (wants n) (cmpF (numN n) (numD n) (wantN n) (wantD n)))) hk2).mpr ⟨h68.2, fun z => absurd z (by omega)⟩)) ?_
        refine Rg.step 124 F_Mo_isGoal_120 rfl (fun _ => rfl) ?_
        refine Rg.step 125 F_Mo_isGoal_124 rfl (fun _ => rfl) ?_
        refine Rg.inc 128 F_Mo_isGoal_125 rfl rfl (by decide) ?_
        refine Rg.step 61 F_Mo_isGoal_128 rfl (fun _ => rfl) ?_
        exact Rg.weak (ih (k + 1) (by omega) (by omega)) (by simp [lput1, lput2, Value.category, fi0, fi1, fi2, fi3] <;> first | rfl | exact ⟨rfl, rfl⟩) (by simp [lput1, lput2, Value.category, fi0, fi1, fi2, fi3] <;> first | rfl | exact ⟨rfl, rfl⟩)
      · refine Rg.step 81 F_Mo_isGoal_80 rfl (fun _ => rfl) ?_
        refine Rg.getf 84 F_Mo_isGoal_81 rfl rF_26_39 (gM hp) rfl ?_
        refine Rg.step 85 F_Mo_isGoal_84 rfl (fun _ => rfl) ?_
        refine Rg.ild 86 F_Mo_isGoal_85 rfl (gR_wants hp) (by omega) (by decide) ?_
        refine Rg.step 87 F_Mo_isGoal_86 rfl (fun _ => rfl) ?_
        refine Rg.getf 90 F_Mo_isGoal_87 rfl rF_26_123 (gM hp) rfl ?_
        refine Rg.step 91 F_Mo_isGoal_90 rfl (fun _ => rfl) ?_
        refine Rg.lld 92 F_Mo_isGoal_91 rfl (gR_numN hp) (by omega) (by decide) ?_
        refine Rg.step 93 F_Mo_isGoal_92 rfl (fun _ => rfl) ?_
        refine Rg.getf 96 F_Mo_isGoal_93 rfl rF_26_126 (gM hp) rfl ?_
        refine Rg.step 97 F_Mo_isGoal_96 rfl (fun _ => rfl) ?_
        refine Rg.lld 98 F_Mo_isGoal_97 rfl (gR_numD hp) (by omega) (by decide) ?_
        refine Rg.step 99 F_Mo_isGoal_98 rfl (fun _ => rfl) ?_
        refine Rg.getf 102 F_Mo_isGoal_99 rfl rF_26_42 (gM hp) rfl ?_
        refine Rg.step 103 F_Mo_isGoal_102 rfl (fun _ => rfl) ?_
        refine Rg.lld 104 F_Mo_isGoal_103 rfl (gR_wantN hp) (by omega) (by decide) ?_
        refine Rg.step 105 F_Mo_isGoal_104 rfl (fun _ => rfl) ?_
        refine Rg.getf 108 F_Mo_isGoal_105 rfl rF_26_45 (gM hp) rfl ?_
        refine Rg.step 109 F_Mo_isGoal_108 rfl (fun _ => rfl) ?_
        refine Rg.lld 110 F_Mo_isGoal_109 rfl (gR_wantD hp) (by omega) (by decide) ?_
        refine Rg.call 113 F_Mo_isGoal_110 rfl (one_S (by decide +kernel) rM_26_264 (by decide) (by simp) rfl rfl) (Nat.le_of_ble_eq_true rfl) (Cg.any (c_Mo_order (by omega) (by omega) (by omega) (by omega) (by omega) (by omega))) ?_
        refine Rg.call 116 F_Mo_isGoal_113 rfl (one_S (by decide +kernel) rM_26_268 (by decide) (by simp) rfl rfl) (Nat.le_of_ble_eq_true rfl) (Cg.any (c_Mo_compares (by omega) (by omega))) ?_
        refine Rg.ifeqP 123 119 F_Mo_isGoal_116 rfl rfl (fun h116 => ?_) (fun h116 => ?_)
        · refine Rg.cP0 (B := (A ∧ (∀ n, 0 ≤ n → n < (k + 1) → 0 ≤ wants n → cmps (wants n) (cmpF (numN n) (numD n) (wantN n) (wantD n))))) 124 F_Mo_isGoal_123 rfl (fun z => h116 (((al_succ (C := (fun n => 0 ≤ wants n → cmps (wants n) (cmpF (numN n) (numD n) (wantN n) (wantD n)))) hk2).mp z.2).2 (by omega))) ?_
          refine Rg.step 125 F_Mo_isGoal_124 rfl (fun _ => rfl) ?_
          refine Rg.inc 128 F_Mo_isGoal_125 rfl rfl (by decide) ?_
          refine Rg.step 61 F_Mo_isGoal_128 rfl (fun _ => rfl) ?_
          exact Rg.weak (ih (k + 1) (by omega) (by omega)) (by simp [lput1, lput2, Value.category, fi0, fi1, fi2, fi3] <;> first | rfl | exact ⟨rfl, rfl⟩) (by simp [lput1, lput2, Value.category, fi0, fi1, fi2, fi3] <;> first | rfl | exact ⟨rfl, rfl⟩)
        · refine Rg.cP1 (B := (A ∧ (∀ n, 0 ≤ n → n < (k + 1) → 0 ≤ wants n → cmps (wants n) (cmpF (numN n) (numD n) (wantN n) (wantD n))))) 120 F_Mo_isGoal_119 rfl (And.intro h68.1 ((al_succ (C := (fun n => 0 ≤ wants n → cmps (wants n) (cmpF (numN n) (numD n) (wantN n) (wantD n)))) hk2).mpr ⟨h68.2, fun _ => h116⟩)) ?_
          refine Rg.step 124 F_Mo_isGoal_120 rfl (fun _ => rfl) ?_
          refine Rg.step 125 F_Mo_isGoal_124 rfl (fun _ => rfl) ?_
          refine Rg.inc 128 F_Mo_isGoal_125 rfl rfl (by decide) ?_
          refine Rg.step 61 F_Mo_isGoal_128 rfl (fun _ => rfl) ?_
          exact Rg.weak (ih (k + 1) (by omega) (by omega)) (by simp [lput1, lput2, Value.category, fi0, fi1, fi2, fi3] <;> first | rfl | exact ⟨rfl, rfl⟩) (by simp [lput1, lput2, Value.category, fi0, fi1, fi2, fi3] <;> first | rfl | exact ⟨rfl, rfl⟩)
theorem goal_l1 {d n0 : Nat} (hp : pre.length = 168) (hw : WT epsilonN epsilonD wishes wants wantN wantD actions needs needTime needOf needHow needN needD changes changeTime changeOf changeHow changeN changeD lastOf lastN lastD firstN firstD) (wN : WN numN numD) : ∀ (n : Nat) (k : Int), k + n = 16 → 0 ≤ k → Rg true (d + 2) m_Mo_isGoal n0 4 [(2, .int (iI k)), (1, .int (bP (∀ f, 0 ≤ f → f < k → 0 ≤ wishes f → (facts f ↔ wishes f = 1)))), (0, .ref 168)] [] (MR pre code amountN amountD momentN momentD epsilonN epsilonD firstFacts firstN firstD wishes wants wantN wantD actions needs needTime needOf needHow needN needD changes changeTime changeOf changeHow changeN changeD lastOf lastN lastD steps stepAction startN startD lengthN lengthD rows row tried triedAction triedRows triedRow times unit facts numN numD oldFacts oldN oldD point judged fault faultPoint toldFacts toldN toldD outN outD pointN pointD gone now leastN leastD greatestN greatestD events post) (.inl (some (.int (bP (goal wishes wants wantN wantD facts numN numD))))) (MR pre code amountN amountD momentN momentD epsilonN epsilonD firstFacts firstN firstD wishes wants wantN wantD actions needs needTime needOf needHow needN needD changes changeTime changeOf changeHow changeN changeD lastOf lastN lastD steps stepAction startN startD lengthN lengthD rows row tried triedAction triedRows triedRow times unit facts numN numD oldFacts oldN oldD point judged fault faultPoint toldFacts toldN toldD outN outD pointN pointD gone now leastN leastD greatestN greatestD events post) := by
  intro n
  obtain ⟨-, wW, -, -, -, -, -, -, -, -, -, -, -, -, -, -, -, -, -, -, -⟩ := id hw
  induction n with
  | zero =>
    intro k hk hk2
    have hk : k = 16 := by omega
    subst hk
    rw [show bP (∀ f, 0 ≤ f → f < 16 → 0 ≤ wishes f → (facts f ↔ wishes f = 1)) = bP ((∀ f, 0 ≤ f → f < 16 → 0 ≤ wishes f → (facts f ↔ wishes f = 1)) ∧ (∀ n, 0 ≤ n → n < 0 → 0 ≤ wants n → cmps (wants n) (cmpF (numN n) (numD n) (wantN n) (wantD n)))) from bP_c ⟨fun z => ⟨z, al_zero⟩, fun z => z.1⟩]
    refine Rg.step 5 F_Mo_isGoal_4 rfl (fun _ => rfl) ?_
    refine Rg.bip 7 F_Mo_isGoal_5 rfl rfl ?_
    refine Rg.icgeI 59 10 F_Mo_isGoal_7 rfl rfl (by omega) (by omega) (fun _ => ?_) (fun h7 => by omega)
    refine Rg.step 60 F_Mo_isGoal_59 rfl (fun _ => rfl) ?_
    refine Rg.step 61 F_Mo_isGoal_60 rfl (fun _ => rfl) ?_
    exact Rg.weak (goal_l2 hp hw wN 8 0 (by omega) (by omega)) (by simp [lput1, lput2, Value.category, fi0, fi1, fi2, fi3] <;> first | rfl | exact ⟨rfl, rfl⟩) (by simp [lput1, lput2, Value.category, fi0, fi1, fi2, fi3] <;> first | rfl | exact ⟨rfl, rfl⟩)
  | succ n ih =>
    intro k hk hk2
    have d1 := wW k
    refine Rg.step 5 F_Mo_isGoal_4 rfl (fun _ => rfl) ?_
    refine Rg.bip 7 F_Mo_isGoal_5 rfl rfl ?_
    refine Rg.icgeI 59 10 F_Mo_isGoal_7 rfl rfl (by omega) (by omega) (fun h7 => by omega) (fun _ => ?_)
    refine Rg.step 11 F_Mo_isGoal_10 rfl (fun _ => rfl) ?_
    refine Rg.ifeqP 51 14 F_Mo_isGoal_11 rfl rfl (fun h11 => ?_) (fun h11 => ?_)
    · refine Rg.cP0 (B := (∀ f, 0 ≤ f → f < (k + 1) → 0 ≤ wishes f → (facts f ↔ wishes f = 1))) 52 F_Mo_isGoal_51 rfl (fun z => h11 ((al_succ (C := (fun f => 0 ≤ wishes f → (facts f ↔ wishes f = 1))) hk2).mp z).1) ?_
      refine Rg.step 53 F_Mo_isGoal_52 rfl (fun _ => rfl) ?_
      refine Rg.inc 56 F_Mo_isGoal_53 rfl rfl (by decide) ?_
      refine Rg.step 4 F_Mo_isGoal_56 rfl (fun _ => rfl) ?_
      exact Rg.weak (ih (k + 1) (by omega) (by omega)) (by simp [lput1, lput2, Value.category, fi0, fi1, fi2, fi3] <;> first | rfl | exact ⟨rfl, rfl⟩) (by simp [lput1, lput2, Value.category, fi0, fi1, fi2, fi3] <;> first | rfl | exact ⟨rfl, rfl⟩)
    · refine Rg.step 15 F_Mo_isGoal_14 rfl (fun _ => rfl) ?_
      refine Rg.getf 18 F_Mo_isGoal_15 rfl rF_26_35 (gM hp) rfl ?_
      refine Rg.step 19 F_Mo_isGoal_18 rfl (fun _ => rfl) ?_
      refine Rg.ild 20 F_Mo_isGoal_19 rfl (gR_wishes hp) (by omega) (by decide) ?_
      refine Rg.ifltI 47 23 F_Mo_isGoal_20 rfl rfl (by omega) (fun h20 => ?_) (fun h20 => ?_)
      · refine Rg.cP1 (B := (∀ f, 0 ≤ f → f < (k + 1) → 0 ≤ wishes f → (facts f ↔ wishes f = 1))) 48 F_Mo_isGoal_47 rfl ((al_succ (C := (fun f => 0 ≤ wishes f → (facts f ↔ wishes f = 1))) hk2).mpr ⟨h11, fun z => absurd z (by omega)⟩) ?_
        refine Rg.step 52 F_Mo_isGoal_48 rfl (fun _ => rfl) ?_
        refine Rg.step 53 F_Mo_isGoal_52 rfl (fun _ => rfl) ?_
        refine Rg.inc 56 F_Mo_isGoal_53 rfl rfl (by decide) ?_
        refine Rg.step 4 F_Mo_isGoal_56 rfl (fun _ => rfl) ?_
        exact Rg.weak (ih (k + 1) (by omega) (by omega)) (by simp [lput1, lput2, Value.category, fi0, fi1, fi2, fi3] <;> first | rfl | exact ⟨rfl, rfl⟩) (by simp [lput1, lput2, Value.category, fi0, fi1, fi2, fi3] <;> first | rfl | exact ⟨rfl, rfl⟩)
      · refine Rg.step 24 F_Mo_isGoal_23 rfl (fun _ => rfl) ?_
        refine Rg.getf 27 F_Mo_isGoal_24 rfl rF_26_120 (gM hp) rfl ?_
        refine Rg.step 28 F_Mo_isGoal_27 rfl (fun _ => rfl) ?_
        refine Rg.zld 29 F_Mo_isGoal_28 rfl (gR_facts hp) (by omega) (by decide) ?_
        refine Rg.step 30 F_Mo_isGoal_29 rfl (fun _ => rfl) ?_
        refine Rg.getf 33 F_Mo_isGoal_30 rfl rF_26_35 (gM hp) rfl ?_
        refine Rg.step 34 F_Mo_isGoal_33 rfl (fun _ => rfl) ?_
        refine Rg.ild 35 F_Mo_isGoal_34 rfl (gR_wishes hp) (by omega) (by decide) ?_
        refine Rg.step 36 F_Mo_isGoal_35 rfl (fun _ => rfl) ?_
        refine Rg.icneI 43 39 F_Mo_isGoal_36 rfl rfl (by omega) (by omega) (fun h36 => ?_) (fun h36 => ?_)
        · refine Rg.cP0 (B := (wishes k = 1)) 44 F_Mo_isGoal_43 rfl (by omega) ?_
          refine Rg.icneP 51 47 F_Mo_isGoal_44 rfl rfl (fun h44 => ?_) (fun h44 => ?_)
          · refine Rg.cP0 (B := (∀ f, 0 ≤ f → f < (k + 1) → 0 ≤ wishes f → (facts f ↔ wishes f = 1))) 52 F_Mo_isGoal_51 rfl (fun z => h44 (((al_succ (C := (fun f => 0 ≤ wishes f → (facts f ↔ wishes f = 1))) hk2).mp z).2 (by omega))) ?_
            refine Rg.step 53 F_Mo_isGoal_52 rfl (fun _ => rfl) ?_
            refine Rg.inc 56 F_Mo_isGoal_53 rfl rfl (by decide) ?_
            refine Rg.step 4 F_Mo_isGoal_56 rfl (fun _ => rfl) ?_
            exact Rg.weak (ih (k + 1) (by omega) (by omega)) (by simp [lput1, lput2, Value.category, fi0, fi1, fi2, fi3] <;> first | rfl | exact ⟨rfl, rfl⟩) (by simp [lput1, lput2, Value.category, fi0, fi1, fi2, fi3] <;> first | rfl | exact ⟨rfl, rfl⟩)
          · refine Rg.cP1 (B := (∀ f, 0 ≤ f → f < (k + 1) → 0 ≤ wishes f → (facts f ↔ wishes f = 1))) 48 F_Mo_isGoal_47 rfl ((al_succ (C := (fun f => 0 ≤ wishes f → (facts f ↔ wishes f = 1))) hk2).mpr ⟨h11, fun _ => h44⟩) ?_
            refine Rg.step 52 F_Mo_isGoal_48 rfl (fun _ => rfl) ?_
            refine Rg.step 53 F_Mo_isGoal_52 rfl (fun _ => rfl) ?_
            refine Rg.inc 56 F_Mo_isGoal_53 rfl rfl (by decide) ?_
            refine Rg.step 4 F_Mo_isGoal_56 rfl (fun _ => rfl) ?_
            exact Rg.weak (ih (k + 1) (by omega) (by omega)) (by simp [lput1, lput2, Value.category, fi0, fi1, fi2, fi3] <;> first | rfl | exact ⟨rfl, rfl⟩) (by simp [lput1, lput2, Value.category, fi0, fi1, fi2, fi3] <;> first | rfl | exact ⟨rfl, rfl⟩)
        · refine Rg.cP1 (B := (wishes k = 1)) 40 F_Mo_isGoal_39 rfl (by omega) ?_
          refine Rg.step 44 F_Mo_isGoal_40 rfl (fun _ => rfl) ?_
          refine Rg.icneP 51 47 F_Mo_isGoal_44 rfl rfl (fun h44 => ?_) (fun h44 => ?_)
          · refine Rg.cP0 (B := (∀ f, 0 ≤ f → f < (k + 1) → 0 ≤ wishes f → (facts f ↔ wishes f = 1))) 52 F_Mo_isGoal_51 rfl (fun z => h44 (((al_succ (C := (fun f => 0 ≤ wishes f → (facts f ↔ wishes f = 1))) hk2).mp z).2 (by omega))) ?_
            refine Rg.step 53 F_Mo_isGoal_52 rfl (fun _ => rfl) ?_
            refine Rg.inc 56 F_Mo_isGoal_53 rfl rfl (by decide) ?_
            refine Rg.step 4 F_Mo_isGoal_56 rfl (fun _ => rfl) ?_
            exact Rg.weak (ih (k + 1) (by omega) (by omega)) (by simp [lput1, lput2, Value.category, fi0, fi1, fi2, fi3] <;> first | rfl | exact ⟨rfl, rfl⟩) (by simp [lput1, lput2, Value.category, fi0, fi1, fi2, fi3] <;> first | rfl | exact ⟨rfl, rfl⟩)
          · refine Rg.cP1 (B := (∀ f, 0 ≤ f → f < (k + 1) → 0 ≤ wishes f → (facts f ↔ wishes f = 1))) 48 F_Mo_isGoal_47 rfl ((al_succ (C := (fun f => 0 ≤ wishes f → (facts f ↔ wishes f = 1))) hk2).mpr ⟨h11, fun _ => h44⟩) ?_
            refine Rg.step 52 F_Mo_isGoal_48 rfl (fun _ => rfl) ?_
            refine Rg.step 53 F_Mo_isGoal_52 rfl (fun _ => rfl) ?_
            refine Rg.inc 56 F_Mo_isGoal_53 rfl rfl (by decide) ?_
            refine Rg.step 4 F_Mo_isGoal_56 rfl (fun _ => rfl) ?_
            exact Rg.weak (ih (k + 1) (by omega) (by omega)) (by simp [lput1, lput2, Value.category, fi0, fi1, fi2, fi3] <;> first | rfl | exact ⟨rfl, rfl⟩) (by simp [lput1, lput2, Value.category, fi0, fi1, fi2, fi3] <;> first | rfl | exact ⟨rfl, rfl⟩)
theorem c_Mo_isGoal {d : Nat}  (hp : pre.length = 168) (hw : WT epsilonN epsilonD wishes wants wantN wantD actions needs needTime needOf needHow needN needD changes changeTime changeOf changeHow changeN changeD lastOf lastN lastD firstN firstD) (wN : WN numN numD) : Cg true (d + 2) m_Mo_isGoal [.ref 168] (MR pre code amountN amountD momentN momentD epsilonN epsilonD firstFacts firstN firstD wishes wants wantN wantD actions needs needTime needOf needHow needN needD changes changeTime changeOf changeHow changeN changeD lastOf lastN lastD steps stepAction startN startD lengthN lengthD rows row tried triedAction triedRows triedRow times unit facts numN numD oldFacts oldN oldD point judged fault faultPoint toldFacts toldN toldD outN outD pointN pointD gone now leastN leastD greatestN greatestD events post) (.inl (some (.int (bP (goal wishes wants wantN wantD facts numN numD))))) (MR pre code amountN amountD momentN momentD epsilonN epsilonD firstFacts firstN firstD wishes wants wantN wantD actions needs needTime needOf needHow needN needD changes changeTime changeOf changeHow changeN changeD lastOf lastN lastD steps stepAction startN startD lengthN lengthD rows row tried triedAction triedRows triedRow times unit facts numN numD oldFacts oldN oldD point judged fault faultPoint toldFacts toldN toldD outN outD pointN pointD gone now leastN leastD greatestN greatestD events post) := by
  refine Cg.of (Nat.le_of_ble_eq_true rfl) ?_
  change Rg _ _ _ _ 0 [(0, .ref 168)] [] _ _ _
  refine Rg.cP1 (B := (∀ f, 0 ≤ f → f < 0 → 0 ≤ wishes f → (facts f ↔ wishes f = 1))) 1 F_Mo_isGoal_0 rfl al_zero ?_
  refine Rg.step 2 F_Mo_isGoal_1 rfl (fun _ => rfl) ?_
  refine Rg.step 3 F_Mo_isGoal_2 rfl (fun _ => rfl) ?_
  refine Rg.step 4 F_Mo_isGoal_3 rfl (fun _ => rfl) ?_
  exact Rg.weak (goal_l1 hp hw wN 16 0 (by omega) (by omega)) (by simp [lput1, lput2, Value.category, fi0, fi1, fi2, fi3] <;> first | rfl | exact ⟨rfl, rfl⟩) (by simp [lput1, lput2, Value.category, fi0, fi1, fi2, fi3] <;> first | rfl | exact ⟨rfl, rfl⟩)
end R46
