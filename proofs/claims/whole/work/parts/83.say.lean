/-! The class: what is told and asked. -/
section RW
variable {φ : Bool} {d : Nat} {M : MI} {n0 pc : Nat} {L : AL} {st : List Value} {mem : AM} {o : Option Value ⊕ Nat} {mem' : AM}
theorem Rg.ldcwI {i : Nat} {v : Int32} {n : Int} (pc' : Nat) (hf : fetch M pc = some (.ldc_w i)) (hp : pc + 3 = pc') (hr : rK (mH M) i = some v) (he : v = iI n) (k : Rg φ d M n0 pc' L (.int (iI n) :: st) mem o mem') : Rg φ d M n0 pc L st mem o mem' := by
  subst hp
  rw [← he] at k
  exact Rg.step _ hf (by dsimp only [one]; rw [hr]; rfl) (fun _ => rfl) k
theorem Rg.tswD {dd lo hi : Int} {offs : Array Int} {x : Int32} (t : Nat) (hf : fetch M pc = some (.tableswitch dd lo hi offs)) (ht : br pc dd = some t) (hx : x.toInt < lo ∨ hi < x.toInt) (k : Rg φ d M n0 t L st mem o mem') : Rg φ d M n0 pc L (.int x :: st) mem o mem' := by
  refine Rg.step t hf ?_ (fun _ => rfl) k
  dsimp only [one, jmp]
  rw [if_pos hx, ht]
  rfl
theorem Rg.tsw {dd lo hi q : Int} {offs : Array Int} {x : Int32} (t j : Nat) (hf : fetch M pc = some (.tableswitch dd lo hi offs)) (hx : x.toInt = lo + j) (hj : lo + j ≤ hi) (hq : offs[j]? = some q) (ht : br pc q = some t) (k : Rg φ d M n0 t L st mem o mem') : Rg φ d M n0 pc L (.int x :: st) mem o mem' := by
  refine Rg.step t hf ?_ (fun _ => rfl) k
  dsimp only [one, jmp]
  rw [if_neg (by omega), show (x.toInt - lo).toNat = j by omega, hq]
  dsimp only
  rw [ht]
  rfl
theorem gX {m : AM} {x : AC} : (m ++ [x])[m.length]? = some x := by simp
end RW
theorem fct_t {F : Int → Prop} {f : Int} {v : Prop} (h : v) : (fun i => (F i ∧ ¬ i = f) ∨ i = f) = up1 F f v := by
  funext i
  refine propext ?_
  by_cases e : i = f
  · rw [e, up1_eq]; exact ⟨fun _ => h, fun _ => Or.inr rfl⟩
  · rw [up1_ne _ _ e]; exact ⟨fun z => z.elim (fun y => y.1) (fun y => absurd y e), fun z => Or.inl ⟨z, e⟩⟩
theorem fct_f {F : Int → Prop} {f : Int} {v : Prop} (h : ¬ v) : (fun i => F i ∧ ¬ i = f) = up1 F f v := by
  funext i
  refine propext ?_
  by_cases e : i = f
  · rw [e, up1_eq]; exact ⟨fun z => absurd rfl z.2, fun z => absurd z h⟩
  · rw [up1_ne _ _ e]; exact ⟨fun y => y.1, fun z => ⟨z, e⟩⟩
theorem wsh_t {F : Int → Prop} {f : Int} {P : Prop} (h : P) : (fun i => (F i ∧ ¬ i = f) ∨ i = f) = (fun i => (F i ∧ ¬ i = f) ∨ (P ∧ i = f)) := by
  funext i
  exact propext ⟨fun z => z.imp id (fun y => ⟨h, y⟩), fun z => z.imp id (fun y => y.2)⟩
theorem wsh_f {F : Int → Prop} {f : Int} {P : Prop} (h : ¬ P) : (fun i => (F i ∧ ¬ i = f) ∨ False) = (fun i => (F i ∧ ¬ i = f) ∨ (P ∧ i = f)) := by
  funext i
  exact propext ⟨fun z => z.imp id False.elim, fun z => z.imp id (fun y => h y.1)⟩
section R83
variable {s0 s1 : AC} {rest mem : AM} {ab : Int → Nat}
variable {alS alM plS plP veW veF veP juP arP arB arU arF : Int}
variable {handN handD fiN fiD epN epD goH goN goD plA plBN plBD plLN plLD plR vsN vsD juTN juTD juO scN scD noN noD neN neD arR arL arT arA arS leN leD grN grD arLU arGU shN shD : Int → Int}
variable {stN stD : Int → Int → Int}
variable {stF : Int → Int → Prop}
variable {gT gF fiF plM vsF juM noF neF arM arH : Int → Prop}
variable {alE : Nat}
variable {code amountN amountD momentN momentD epsilonN epsilonD actions steps rows tried triedRows unit point judged fault faultPoint outN outD : Int}
variable {firstN firstD wishes wants wantN wantD needs needTime needOf needHow needN needD changes changeTime changeOf changeHow changeN changeD lastOf lastN lastD stepAction startN startD lengthN lengthD row triedAction triedRow times numN numD oldN oldD toldN toldD pointN pointD leastN leastD greatestN greatestD events : Int → Int}
variable {firstFacts facts oldFacts toldFacts gone now : Int → Prop}
variable {p q i f n w a k : Int} {v : Prop}
theorem c_factBit {d : Nat}  (h : 0 ≤ f ∧ f < 24) : Cg true d m_PJ_factBit [.int (iI f)] mem (.inl (some (.int (mk (fun i => i = f))))) mem := by
  refine Cg.of (Nat.le_of_ble_eq_true rfl) ?_
  change Rg _ _ _ _ 0 [(0, .int (iI f))] [] _ _ _
  refine Rg.step 1 F_PJ_factBit_0 rfl (fun _ => rfl) ?_
  refine Rg.step 2 F_PJ_factBit_1 rfl (fun _ => rfl) ?_
  refine Rg.shlK 3 F_PJ_factBit_2 rfl (by omega) ?_
  exact Rg.ret F_PJ_factBit_3 rfl
theorem c_numberBit {d : Nat}  (h : 0 ≤ f ∧ f < 8) : Cg true d m_PJ_numberBit [.int (iI f)] mem (.inl (some (.int (mk (fun i => i = 16 + f))))) mem := by
  refine Cg.of (Nat.le_of_ble_eq_true rfl) ?_
  change Rg _ _ _ _ 0 [(0, .int (iI f))] [] _ _ _
  refine Rg.step 1 F_PJ_numberBit_0 rfl (fun _ => rfl) ?_
  refine Rg.bip 3 F_PJ_numberBit_1 rfl rfl ?_
  refine Rg.step 4 F_PJ_numberBit_3 rfl (fun _ => rfl) ?_
  refine Rg.addI 5 F_PJ_numberBit_4 rfl ?_
  refine Rg.shlK 6 F_PJ_numberBit_5 rfl (by omega) ?_
  exact Rg.ret F_PJ_numberBit_6 rfl
theorem c_PJ_tih {d : Nat}  (hi : 0 ≤ i ∧ i < 2) (h : -100000 ≤ p ∧ p ≤ 100000 ∧ 1 ≤ q ∧ q ≤ 1000) : Cg false (d + 1) m_PJ_takeInHand [.ref 2, .int (iI i), .int (iI p), .int (iI q)] (MC s0 s1 handN handD gT gF alE actions alM fiF fiN fiD epN epD goH goN goD plS plP plM plA plBN plBD plLN plLD plR veW veF veP vsF vsN vsD juM juP juTN juTD juO scN scD noF noN noD neF neN neD arP arB arM arU arF arR arL arT arA arS leN leD grN grD arH arLU arGU shN shD stF stN stD rest) (.inl none) (MC s0 s1 (up1 handN i (nN p q)) (up1 handD i (nD p q)) gT gF alE actions alM fiF fiN fiD epN epD goH goN goD plS plP plM plA plBN plBD plLN plLD plR veW veF veP vsF vsN vsD juM juP juTN juTD juO scN scD noF noN noD neF neN neD arP arB arM arU arF arR arL arT arA arS leN leD grN grD arH arLU arGU shN shD stF stN stD rest) := by
  refine Cg.of (Nat.le_of_ble_eq_true rfl) ?_
  change Rg _ _ _ _ 0 [(0, .ref 2), (1, .int (iI i)), (2, .int (iI p)), (3, .int (iI q))] [] _ _ _
  refine Rg.step 1 F_PJ_takeInHand_0 rfl (fun _ => rfl) ?_
  refine Rg.ldcI (n := -100000) 3 F_PJ_takeInHand_1 rfl rK_1_255 rfl ?_
  refine Rg.ldcwI (n := 100000) 6 F_PJ_takeInHand_3 rfl rK_1_256 rfl ?_
  refine Rg.call 9 F_PJ_takeInHand_6 rfl (one_S (by decide +kernel) rM_1_92 (by decide) (by simp) rfl rfl) (Nat.le_of_ble_eq_true rfl) (Cg.any (c_chk_ok (by omega) (by omega) (by omega) (by omega))) ?_
  refine Rg.step 10 F_PJ_takeInHand_9 rfl (fun _ => rfl) ?_
  refine Rg.step 11 F_PJ_takeInHand_10 rfl (fun _ => rfl) ?_
  refine Rg.sip 14 F_PJ_takeInHand_11 rfl rfl ?_
  refine Rg.call 17 F_PJ_takeInHand_14 rfl (one_S (by decide +kernel) rM_1_92 (by decide) (by simp) rfl rfl) (Nat.le_of_ble_eq_true rfl) (Cg.any (c_chk_ok (by omega) (by omega) (by omega) (by omega))) ?_
  refine Rg.step 18 F_PJ_takeInHand_17 rfl (fun _ => rfl) ?_
  refine Rg.getf 21 F_PJ_takeInHand_18 rfl rF_1_12 gC_2 rfl ?_
  refine Rg.step 22 F_PJ_takeInHand_21 rfl (fun _ => rfl) ?_
  refine Rg.step 23 F_PJ_takeInHand_22 rfl (fun _ => rfl) ?_
  refine Rg.i2l 24 F_PJ_takeInHand_23 rfl (by omega) ?_
  refine Rg.step 25 F_PJ_takeInHand_24 rfl (fun _ => rfl) ?_
  refine Rg.i2l 26 F_PJ_takeInHand_25 rfl (by omega) ?_
  refine Rg.call 29 F_PJ_takeInHand_26 rfl (one_V rM_1_257 (by decide) (by simp) rfl rfl gC_3 rfl) (Nat.le_of_ble_eq_true rfl) (Cg.toM sF_hand (c_FrI_put _ gF_hand (by omega) (by omega) (by omega))) ?_
  exact Rg.retV F_PJ_takeInHand_29 rfl rfl
theorem c_PJ_tih_p {d : Nat} (b_p : -2147483648 ≤ p ∧ p < 2147483648) (h : ¬ (-100000 ≤ p ∧ p ≤ 100000)) : Cg true (d + 1) m_PJ_takeInHand [.ref 2, .int (iI i), .int (iI p), .int (iI q)] (MC s0 s1 handN handD gT gF alE actions alM fiF fiN fiD epN epD goH goN goD plS plP plM plA plBN plBD plLN plLD plR veW veF veP vsF vsN vsD juM juP juTN juTD juO scN scD noF noN noD neF neN neD arP arB arM arU arF arR arL arT arA arS leN leD grN grD arH arLU arGU shN shD stF stN stD rest) (.inr (MC s0 s1 handN handD gT gF alE actions alM fiF fiN fiD epN epD goH goN goD plS plP plM plA plBN plBD plLN plLD plR veW veF veP vsF vsN vsD juM juP juTN juTD juO scN scD noF noN noD neF neN neD arP arB arM arU arF arR arL arT arA arS leN leD grN grD arH arLU arGU shN shD stF stN stD rest).length) ((MC s0 s1 handN handD gT gF alE actions alM fiF fiN fiD epN epD goH goN goD plS plP plM plA plBN plBD plLN plLD plR veW veF veP vsF vsN vsD juM juP juTN juTD juO scN scD noF noN noD neF neN neD arP arB arM arU arF arR arL arT arA arS leN leD grN grD arH arLU arGU shN shD stF stN stD rest) ++ [.inr (12, [])]) := by
  refine Cg.of (Nat.le_of_ble_eq_true rfl) ?_
  change Rg _ _ _ _ 0 [(0, .ref 2), (1, .int (iI i)), (2, .int (iI p)), (3, .int (iI q))] [] _ _ _
  refine Rg.step 1 F_PJ_takeInHand_0 rfl (fun _ => rfl) ?_
  refine Rg.ldcI (n := -100000) 3 F_PJ_takeInHand_1 rfl rK_1_255 rfl ?_
  refine Rg.ldcwI (n := 100000) 6 F_PJ_takeInHand_3 rfl rK_1_256 rfl ?_
  exact Rg.callT F_PJ_takeInHand_6 (one_S (by decide +kernel) rM_1_92 (by decide) (by simp) rfl rfl) (Nat.le_of_ble_eq_true rfl) (c_chk_no (by omega) (by omega) (by omega) (by omega)) gX rfl
theorem c_PJ_tih_q {d : Nat} (b_p : -2147483648 ≤ p ∧ p < 2147483648) (b_q : -2147483648 ≤ q ∧ q < 2147483648) (h : -100000 ≤ p ∧ p ≤ 100000) (h2 : ¬ (1 ≤ q ∧ q ≤ 1000)) : Cg true (d + 1) m_PJ_takeInHand [.ref 2, .int (iI i), .int (iI p), .int (iI q)] (MC s0 s1 handN handD gT gF alE actions alM fiF fiN fiD epN epD goH goN goD plS plP plM plA plBN plBD plLN plLD plR veW veF veP vsF vsN vsD juM juP juTN juTD juO scN scD noF noN noD neF neN neD arP arB arM arU arF arR arL arT arA arS leN leD grN grD arH arLU arGU shN shD stF stN stD rest) (.inr (MC s0 s1 handN handD gT gF alE actions alM fiF fiN fiD epN epD goH goN goD plS plP plM plA plBN plBD plLN plLD plR veW veF veP vsF vsN vsD juM juP juTN juTD juO scN scD noF noN noD neF neN neD arP arB arM arU arF arR arL arT arA arS leN leD grN grD arH arLU arGU shN shD stF stN stD rest).length) ((MC s0 s1 handN handD gT gF alE actions alM fiF fiN fiD epN epD goH goN goD plS plP plM plA plBN plBD plLN plLD plR veW veF veP vsF vsN vsD juM juP juTN juTD juO scN scD noF noN noD neF neN neD arP arB arM arU arF arR arL arT arA arS leN leD grN grD arH arLU arGU shN shD stF stN stD rest) ++ [.inr (12, [])]) := by
  refine Cg.of (Nat.le_of_ble_eq_true rfl) ?_
  change Rg _ _ _ _ 0 [(0, .ref 2), (1, .int (iI i)), (2, .int (iI p)), (3, .int (iI q))] [] _ _ _
  refine Rg.step 1 F_PJ_takeInHand_0 rfl (fun _ => rfl) ?_
  refine Rg.ldcI (n := -100000) 3 F_PJ_takeInHand_1 rfl rK_1_255 rfl ?_
  refine Rg.ldcwI (n := 100000) 6 F_PJ_takeInHand_3 rfl rK_1_256 rfl ?_
  refine Rg.call 9 F_PJ_takeInHand_6 rfl (one_S (by decide +kernel) rM_1_92 (by decide) (by simp) rfl rfl) (Nat.le_of_ble_eq_true rfl) (Cg.any (c_chk_ok (by omega) (by omega) (by omega) (by omega))) ?_
  refine Rg.step 10 F_PJ_takeInHand_9 rfl (fun _ => rfl) ?_
  refine Rg.step 11 F_PJ_takeInHand_10 rfl (fun _ => rfl) ?_
  refine Rg.sip 14 F_PJ_takeInHand_11 rfl rfl ?_
  exact Rg.callT F_PJ_takeInHand_14 (one_S (by decide +kernel) rM_1_92 (by decide) (by simp) rfl rfl) (Nat.le_of_ble_eq_true rfl) (c_chk_no (by omega) (by omega) (by omega) (by omega)) gX rfl
theorem c_PJ_amount {d : Nat}  (h : -100000 ≤ p ∧ p ≤ 100000 ∧ 1 ≤ q ∧ q ≤ 1000) : Cg false (d + 2) m_PJ_amount [.ref 2, .int (iI p), .int (iI q)] (MC s0 s1 handN handD gT gF alE actions alM fiF fiN fiD epN epD goH goN goD plS plP plM plA plBN plBD plLN plLD plR veW veF veP vsF vsN vsD juM juP juTN juTD juO scN scD noF noN noD neF neN neD arP arB arM arU arF arR arL arT arA arS leN leD grN grD arH arLU arGU shN shD stF stN stD rest) (.inl none) (MC s0 s1 (up1 handN 0 (nN p q)) (up1 handD 0 (nD p q)) gT gF alE actions alM fiF fiN fiD epN epD goH goN goD plS plP plM plA plBN plBD plLN plLD plR veW veF veP vsF vsN vsD juM juP juTN juTD juO scN scD noF noN noD neF neN neD arP arB arM arU arF arR arL arT arA arS leN leD grN grD arH arLU arGU shN shD stF stN stD rest) := by
  refine Cg.of (Nat.le_of_ble_eq_true rfl) ?_
  change Rg _ _ _ _ 0 [(0, .ref 2), (1, .int (iI p)), (2, .int (iI q))] [] _ _ _
  refine Rg.step 1 F_PJ_amount_0 rfl (fun _ => rfl) ?_
  refine Rg.step 2 F_PJ_amount_1 rfl (fun _ => rfl) ?_
  refine Rg.step 3 F_PJ_amount_2 rfl (fun _ => rfl) ?_
  refine Rg.step 4 F_PJ_amount_3 rfl (fun _ => rfl) ?_
  refine Rg.call 7 F_PJ_amount_4 rfl (one_V rM_1_53 (by decide) (by simp) rfl rfl gC_2 rfl) (Nat.le_of_ble_eq_true rfl) (c_PJ_tih (by omega) h) ?_
  exact Rg.retV F_PJ_amount_7 rfl rfl
theorem c_PJ_amount_p {d : Nat} (b_p : -2147483648 ≤ p ∧ p < 2147483648) (h : ¬ (-100000 ≤ p ∧ p ≤ 100000)) : Cg true (d + 2) m_PJ_amount [.ref 2, .int (iI p), .int (iI q)] (MC s0 s1 handN handD gT gF alE actions alM fiF fiN fiD epN epD goH goN goD plS plP plM plA plBN plBD plLN plLD plR veW veF veP vsF vsN vsD juM juP juTN juTD juO scN scD noF noN noD neF neN neD arP arB arM arU arF arR arL arT arA arS leN leD grN grD arH arLU arGU shN shD stF stN stD rest) (.inr (MC s0 s1 handN handD gT gF alE actions alM fiF fiN fiD epN epD goH goN goD plS plP plM plA plBN plBD plLN plLD plR veW veF veP vsF vsN vsD juM juP juTN juTD juO scN scD noF noN noD neF neN neD arP arB arM arU arF arR arL arT arA arS leN leD grN grD arH arLU arGU shN shD stF stN stD rest).length) ((MC s0 s1 handN handD gT gF alE actions alM fiF fiN fiD epN epD goH goN goD plS plP plM plA plBN plBD plLN plLD plR veW veF veP vsF vsN vsD juM juP juTN juTD juO scN scD noF noN noD neF neN neD arP arB arM arU arF arR arL arT arA arS leN leD grN grD arH arLU arGU shN shD stF stN stD rest) ++ [.inr (12, [])]) := by
  refine Cg.of (Nat.le_of_ble_eq_true rfl) ?_
  change Rg _ _ _ _ 0 [(0, .ref 2), (1, .int (iI p)), (2, .int (iI q))] [] _ _ _
  refine Rg.step 1 F_PJ_amount_0 rfl (fun _ => rfl) ?_
  refine Rg.step 2 F_PJ_amount_1 rfl (fun _ => rfl) ?_
  refine Rg.step 3 F_PJ_amount_2 rfl (fun _ => rfl) ?_
  refine Rg.step 4 F_PJ_amount_3 rfl (fun _ => rfl) ?_
  exact Rg.callT F_PJ_amount_4 (one_V rM_1_53 (by decide) (by simp) rfl rfl gC_2 rfl) (Nat.le_of_ble_eq_true rfl) (c_PJ_tih_p b_p h) gX rfl
theorem c_PJ_amount_q {d : Nat} (b_p : -2147483648 ≤ p ∧ p < 2147483648) (b_q : -2147483648 ≤ q ∧ q < 2147483648) (h : -100000 ≤ p ∧ p ≤ 100000) (h2 : ¬ (1 ≤ q ∧ q ≤ 1000)) : Cg true (d + 2) m_PJ_amount [.ref 2, .int (iI p), .int (iI q)] (MC s0 s1 handN handD gT gF alE actions alM fiF fiN fiD epN epD goH goN goD plS plP plM plA plBN plBD plLN plLD plR veW veF veP vsF vsN vsD juM juP juTN juTD juO scN scD noF noN noD neF neN neD arP arB arM arU arF arR arL arT arA arS leN leD grN grD arH arLU arGU shN shD stF stN stD rest) (.inr (MC s0 s1 handN handD gT gF alE actions alM fiF fiN fiD epN epD goH goN goD plS plP plM plA plBN plBD plLN plLD plR veW veF veP vsF vsN vsD juM juP juTN juTD juO scN scD noF noN noD neF neN neD arP arB arM arU arF arR arL arT arA arS leN leD grN grD arH arLU arGU shN shD stF stN stD rest).length) ((MC s0 s1 handN handD gT gF alE actions alM fiF fiN fiD epN epD goH goN goD plS plP plM plA plBN plBD plLN plLD plR veW veF veP vsF vsN vsD juM juP juTN juTD juO scN scD noF noN noD neF neN neD arP arB arM arU arF arR arL arT arA arS leN leD grN grD arH arLU arGU shN shD stF stN stD rest) ++ [.inr (12, [])]) := by
  refine Cg.of (Nat.le_of_ble_eq_true rfl) ?_
  change Rg _ _ _ _ 0 [(0, .ref 2), (1, .int (iI p)), (2, .int (iI q))] [] _ _ _
  refine Rg.step 1 F_PJ_amount_0 rfl (fun _ => rfl) ?_
  refine Rg.step 2 F_PJ_amount_1 rfl (fun _ => rfl) ?_
  refine Rg.step 3 F_PJ_amount_2 rfl (fun _ => rfl) ?_
  refine Rg.step 4 F_PJ_amount_3 rfl (fun _ => rfl) ?_
  exact Rg.callT F_PJ_amount_4 (one_V rM_1_53 (by decide) (by simp) rfl rfl gC_2 rfl) (Nat.le_of_ble_eq_true rfl) (c_PJ_tih_q b_p b_q h h2) gX rfl
theorem c_PJ_amount1 {d : Nat} (b_p : -2147483648 ≤ p ∧ p < 2147483648) (b_q : -2147483648 ≤ q ∧ q < 2147483648) (h : ¬ (-100000 ≤ p ∧ p ≤ 100000 ∧ 1 ≤ q ∧ q ≤ 1000)) : Cg true (d + 2) m_PJ_amount [.ref 2, .int (iI p), .int (iI q)] (MC s0 s1 handN handD gT gF alE actions alM fiF fiN fiD epN epD goH goN goD plS plP plM plA plBN plBD plLN plLD plR veW veF veP vsF vsN vsD juM juP juTN juTD juO scN scD noF noN noD neF neN neD arP arB arM arU arF arR arL arT arA arS leN leD grN grD arH arLU arGU shN shD stF stN stD rest) (.inr (MC s0 s1 handN handD gT gF alE actions alM fiF fiN fiD epN epD goH goN goD plS plP plM plA plBN plBD plLN plLD plR veW veF veP vsF vsN vsD juM juP juTN juTD juO scN scD noF noN noD neF neN neD arP arB arM arU arF arR arL arT arA arS leN leD grN grD arH arLU arGU shN shD stF stN stD rest).length) ((MC s0 s1 handN handD gT gF alE actions alM fiF fiN fiD epN epD goH goN goD plS plP plM plA plBN plBD plLN plLD plR veW veF veP vsF vsN vsD juM juP juTN juTD juO scN scD noF noN noD neF neN neD arP arB arM arU arF arR arL arT arA arS leN leD grN grD arH arLU arGU shN shD stF stN stD rest) ++ [.inr (12, [])]) := by
  by_cases h1 : -100000 ≤ p ∧ p ≤ 100000
  · exact c_PJ_amount_q b_p b_q h1 (by omega)
  · exact c_PJ_amount_p b_p h1
theorem c_PJ_moment {d : Nat}  (h : -100000 ≤ p ∧ p ≤ 100000 ∧ 1 ≤ q ∧ q ≤ 1000) : Cg false (d + 2) m_PJ_moment [.ref 2, .int (iI p), .int (iI q)] (MC s0 s1 handN handD gT gF alE actions alM fiF fiN fiD epN epD goH goN goD plS plP plM plA plBN plBD plLN plLD plR veW veF veP vsF vsN vsD juM juP juTN juTD juO scN scD noF noN noD neF neN neD arP arB arM arU arF arR arL arT arA arS leN leD grN grD arH arLU arGU shN shD stF stN stD rest) (.inl none) (MC s0 s1 (up1 handN 1 (nN p q)) (up1 handD 1 (nD p q)) gT gF alE actions alM fiF fiN fiD epN epD goH goN goD plS plP plM plA plBN plBD plLN plLD plR veW veF veP vsF vsN vsD juM juP juTN juTD juO scN scD noF noN noD neF neN neD arP arB arM arU arF arR arL arT arA arS leN leD grN grD arH arLU arGU shN shD stF stN stD rest) := by
  refine Cg.of (Nat.le_of_ble_eq_true rfl) ?_
  change Rg _ _ _ _ 0 [(0, .ref 2), (1, .int (iI p)), (2, .int (iI q))] [] _ _ _
  refine Rg.step 1 F_PJ_moment_0 rfl (fun _ => rfl) ?_
  refine Rg.step 2 F_PJ_moment_1 rfl (fun _ => rfl) ?_
  refine Rg.step 3 F_PJ_moment_2 rfl (fun _ => rfl) ?_
  refine Rg.step 4 F_PJ_moment_3 rfl (fun _ => rfl) ?_
  refine Rg.call 7 F_PJ_moment_4 rfl (one_V rM_1_53 (by decide) (by simp) rfl rfl gC_2 rfl) (Nat.le_of_ble_eq_true rfl) (c_PJ_tih (by omega) h) ?_
  exact Rg.retV F_PJ_moment_7 rfl rfl
theorem c_PJ_moment_p {d : Nat} (b_p : -2147483648 ≤ p ∧ p < 2147483648) (h : ¬ (-100000 ≤ p ∧ p ≤ 100000)) : Cg true (d + 2) m_PJ_moment [.ref 2, .int (iI p), .int (iI q)] (MC s0 s1 handN handD gT gF alE actions alM fiF fiN fiD epN epD goH goN goD plS plP plM plA plBN plBD plLN plLD plR veW veF veP vsF vsN vsD juM juP juTN juTD juO scN scD noF noN noD neF neN neD arP arB arM arU arF arR arL arT arA arS leN leD grN grD arH arLU arGU shN shD stF stN stD rest) (.inr (MC s0 s1 handN handD gT gF alE actions alM fiF fiN fiD epN epD goH goN goD plS plP plM plA plBN plBD plLN plLD plR veW veF veP vsF vsN vsD juM juP juTN juTD juO scN scD noF noN noD neF neN neD arP arB arM arU arF arR arL arT arA arS leN leD grN grD arH arLU arGU shN shD stF stN stD rest).length) ((MC s0 s1 handN handD gT gF alE actions alM fiF fiN fiD epN epD goH goN goD plS plP plM plA plBN plBD plLN plLD plR veW veF veP vsF vsN vsD juM juP juTN juTD juO scN scD noF noN noD neF neN neD arP arB arM arU arF arR arL arT arA arS leN leD grN grD arH arLU arGU shN shD stF stN stD rest) ++ [.inr (12, [])]) := by
  refine Cg.of (Nat.le_of_ble_eq_true rfl) ?_
  change Rg _ _ _ _ 0 [(0, .ref 2), (1, .int (iI p)), (2, .int (iI q))] [] _ _ _
  refine Rg.step 1 F_PJ_moment_0 rfl (fun _ => rfl) ?_
  refine Rg.step 2 F_PJ_moment_1 rfl (fun _ => rfl) ?_
  refine Rg.step 3 F_PJ_moment_2 rfl (fun _ => rfl) ?_
  refine Rg.step 4 F_PJ_moment_3 rfl (fun _ => rfl) ?_
  exact Rg.callT F_PJ_moment_4 (one_V rM_1_53 (by decide) (by simp) rfl rfl gC_2 rfl) (Nat.le_of_ble_eq_true rfl) (c_PJ_tih_p b_p h) gX rfl
theorem c_PJ_moment_q {d : Nat} (b_p : -2147483648 ≤ p ∧ p < 2147483648) (b_q : -2147483648 ≤ q ∧ q < 2147483648) (h : -100000 ≤ p ∧ p ≤ 100000) (h2 : ¬ (1 ≤ q ∧ q ≤ 1000)) : Cg true (d + 2) m_PJ_moment [.ref 2, .int (iI p), .int (iI q)] (MC s0 s1 handN handD gT gF alE actions alM fiF fiN fiD epN epD goH goN goD plS plP plM plA plBN plBD plLN plLD plR veW veF veP vsF vsN vsD juM juP juTN juTD juO scN scD noF noN noD neF neN neD arP arB arM arU arF arR arL arT arA arS leN leD grN grD arH arLU arGU shN shD stF stN stD rest) (.inr (MC s0 s1 handN handD gT gF alE actions alM fiF fiN fiD epN epD goH goN goD plS plP plM plA plBN plBD plLN plLD plR veW veF veP vsF vsN vsD juM juP juTN juTD juO scN scD noF noN noD neF neN neD arP arB arM arU arF arR arL arT arA arS leN leD grN grD arH arLU arGU shN shD stF stN stD rest).length) ((MC s0 s1 handN handD gT gF alE actions alM fiF fiN fiD epN epD goH goN goD plS plP plM plA plBN plBD plLN plLD plR veW veF veP vsF vsN vsD juM juP juTN juTD juO scN scD noF noN noD neF neN neD arP arB arM arU arF arR arL arT arA arS leN leD grN grD arH arLU arGU shN shD stF stN stD rest) ++ [.inr (12, [])]) := by
  refine Cg.of (Nat.le_of_ble_eq_true rfl) ?_
  change Rg _ _ _ _ 0 [(0, .ref 2), (1, .int (iI p)), (2, .int (iI q))] [] _ _ _
  refine Rg.step 1 F_PJ_moment_0 rfl (fun _ => rfl) ?_
  refine Rg.step 2 F_PJ_moment_1 rfl (fun _ => rfl) ?_
  refine Rg.step 3 F_PJ_moment_2 rfl (fun _ => rfl) ?_
  refine Rg.step 4 F_PJ_moment_3 rfl (fun _ => rfl) ?_
  exact Rg.callT F_PJ_moment_4 (one_V rM_1_53 (by decide) (by simp) rfl rfl gC_2 rfl) (Nat.le_of_ble_eq_true rfl) (c_PJ_tih_q b_p b_q h h2) gX rfl
theorem c_PJ_moment1 {d : Nat} (b_p : -2147483648 ≤ p ∧ p < 2147483648) (b_q : -2147483648 ≤ q ∧ q < 2147483648) (h : ¬ (-100000 ≤ p ∧ p ≤ 100000 ∧ 1 ≤ q ∧ q ≤ 1000)) : Cg true (d + 2) m_PJ_moment [.ref 2, .int (iI p), .int (iI q)] (MC s0 s1 handN handD gT gF alE actions alM fiF fiN fiD epN epD goH goN goD plS plP plM plA plBN plBD plLN plLD plR veW veF veP vsF vsN vsD juM juP juTN juTD juO scN scD noF noN noD neF neN neD arP arB arM arU arF arR arL arT arA arS leN leD grN grD arH arLU arGU shN shD stF stN stD rest) (.inr (MC s0 s1 handN handD gT gF alE actions alM fiF fiN fiD epN epD goH goN goD plS plP plM plA plBN plBD plLN plLD plR veW veF veP vsF vsN vsD juM juP juTN juTD juO scN scD noF noN noD neF neN neD arP arB arM arU arF arR arL arT arA arS leN leD grN grD arH arLU arGU shN shD stF stN stD rest).length) ((MC s0 s1 handN handD gT gF alE actions alM fiF fiN fiD epN epD goH goN goD plS plP plM plA plBN plBD plLN plLD plR veW veF veP vsF vsN vsD juM juP juTN juTD juO scN scD noF noN noD neF neN neD arP arB arM arU arF arR arL arT arA arS leN leD grN grD arH arLU arGU shN shD stF stN stD rest) ++ [.inr (12, [])]) := by
  by_cases h1 : -100000 ≤ p ∧ p ≤ 100000
  · exact c_PJ_moment_q b_p b_q h1 (by omega)
  · exact c_PJ_moment_p b_p h1
theorem c_PJ_epsilon {d : Nat}  (b0 : -4611686018427387904 < handN 0 ∧ handN 0 < 4611686018427387904) (h : 0 < handN 0) : Cg false (d + 1) m_PJ_epsilon [.ref 2] (MC s0 s1 handN handD gT gF alE actions alM fiF fiN fiD epN epD goH goN goD plS plP plM plA plBN plBD plLN plLD plR veW veF veP vsF vsN vsD juM juP juTN juTD juO scN scD noF noN noD neF neN neD arP arB arM arU arF arR arL arT arA arS leN leD grN grD arH arLU arGU shN shD stF stN stD rest) (.inl none) (MC s0 s1 handN handD gT gF alE actions alM fiF fiN fiD (up1 epN 0 (handN 0)) (up1 epD 0 (handD 0)) goH goN goD plS plP plM plA plBN plBD plLN plLD plR veW veF veP vsF vsN vsD juM juP juTN juTD juO scN scD noF noN noD neF neN neD arP arB arM arU arF arR arL arT arA arS leN leD grN grD arH arLU arGU shN shD stF stN stD rest) := by
  refine Cg.of (Nat.le_of_ble_eq_true rfl) ?_
  change Rg _ _ _ _ 0 [(0, .ref 2)] [] _ _ _
  refine Rg.step 1 F_PJ_epsilon_0 rfl (fun _ => rfl) ?_
  refine Rg.getf 4 F_PJ_epsilon_1 rfl rF_1_12 gC_2 rfl ?_
  refine Rg.getf 7 F_PJ_epsilon_4 rfl rF_1_57 gC_3 rfl ?_
  refine Rg.step 8 F_PJ_epsilon_7 rfl (fun _ => rfl) ?_
  refine Rg.lld 9 F_PJ_epsilon_8 rfl gC_4 (by omega) (by decide) ?_
  refine Rg.lcn (n := 0) 10 F_PJ_epsilon_9 rfl rfl ?_
  refine Rg.lcgt 22 14 F_PJ_epsilon_10 F_PJ_epsilon_11 rfl rfl (by omega) (by omega) (fun _ => ?_) (fun h10 => by omega)
  refine Rg.step 23 F_PJ_epsilon_22 rfl (fun _ => rfl) ?_
  refine Rg.getf 26 F_PJ_epsilon_23 rfl rF_1_21 gC_2 rfl ?_
  refine Rg.getf 29 F_PJ_epsilon_26 rfl rF_1_64 gC_6 rfl ?_
  refine Rg.step 30 F_PJ_epsilon_29 rfl (fun _ => rfl) ?_
  refine Rg.step 31 F_PJ_epsilon_30 rfl (fun _ => rfl) ?_
  refine Rg.getf 34 F_PJ_epsilon_31 rfl rF_1_12 gC_2 rfl ?_
  refine Rg.step 35 F_PJ_epsilon_34 rfl (fun _ => rfl) ?_
  refine Rg.call 38 F_PJ_epsilon_35 rfl (one_V rM_1_67 (by decide) (by simp) rfl rfl gC_12 rfl) (Nat.le_of_ble_eq_true rfl) (Cg.toM sF_ep (c_FrI_copy _ gF_ep gF_hand (by decide) (by omega) (by omega))) ?_
  exact Rg.retV F_PJ_epsilon_38 rfl rfl
theorem c_PJ_epsilon1 {d : Nat} (b0 : -4611686018427387904 < handN 0 ∧ handN 0 < 4611686018427387904) (h : ¬ 0 < handN 0) : Cg true d m_PJ_epsilon [.ref 2] (MC s0 s1 handN handD gT gF alE actions alM fiF fiN fiD epN epD goH goN goD plS plP plM plA plBN plBD plLN plLD plR veW veF veP vsF vsN vsD juM juP juTN juTD juO scN scD noF noN noD neF neN neD arP arB arM arU arF arR arL arT arA arS leN leD grN grD arH arLU arGU shN shD stF stN stD rest) (.inr (MC s0 s1 handN handD gT gF alE actions alM fiF fiN fiD epN epD goH goN goD plS plP plM plA plBN plBD plLN plLD plR veW veF veP vsF vsN vsD juM juP juTN juTD juO scN scD noF noN noD neF neN neD arP arB arM arU arF arR arL arT arA arS leN leD grN grD arH arLU arGU shN shD stF stN stD rest).length) ((MC s0 s1 handN handD gT gF alE actions alM fiF fiN fiD epN epD goH goN goD plS plP plM plA plBN plBD plLN plLD plR veW veF veP vsF vsN vsD juM juP juTN juTD juO scN scD noF noN noD neF neN neD arP arB arM arU arF arR arL arT arA arS leN leD grN grD arH arLU arGU shN shD stF stN stD rest) ++ [.inr (12, [])]) := by
  refine Cg.of (Nat.le_of_ble_eq_true rfl) ?_
  change Rg _ _ _ _ 0 [(0, .ref 2)] [] _ _ _
  refine Rg.step 1 F_PJ_epsilon_0 rfl (fun _ => rfl) ?_
  refine Rg.getf 4 F_PJ_epsilon_1 rfl rF_1_12 gC_2 rfl ?_
  refine Rg.getf 7 F_PJ_epsilon_4 rfl rF_1_57 gC_3 rfl ?_
  refine Rg.step 8 F_PJ_epsilon_7 rfl (fun _ => rfl) ?_
  refine Rg.lld 9 F_PJ_epsilon_8 rfl gC_4 (by omega) (by decide) ?_
  refine Rg.lcn (n := 0) 10 F_PJ_epsilon_9 rfl rfl ?_
  refine Rg.lcgt 22 14 F_PJ_epsilon_10 F_PJ_epsilon_11 rfl rfl (by omega) (by omega) (fun h10 => by omega) (fun _ => ?_)
  exact Rg.thr F_PJ_epsilon_14 F_PJ_epsilon_17 F_PJ_epsilon_18 F_PJ_epsilon_21 rC_1_61 rfl (by decide) rE_1_63 rfl rfl (Nat.le_of_ble_eq_true rfl)
theorem c_PJ_fact {d : Nat}  (h : 0 ≤ f ∧ f ≤ 15) : Cg false (d + 1) m_PJ_fact [.ref 2, .int (iI f), .int (bP v)] (MC s0 s1 handN handD gT gF alE actions alM fiF fiN fiD epN epD goH goN goD plS plP plM plA plBN plBD plLN plLD plR veW veF veP vsF vsN vsD juM juP juTN juTD juO scN scD noF noN noD neF neN neD arP arB arM arU arF arR arL arT arA arS leN leD grN grD arH arLU arGU shN shD stF stN stD rest) (.inl none) (MC s0 s1 handN handD gT gF alE actions alM (up1 fiF f v) fiN fiD epN epD goH goN goD plS plP plM plA plBN plBD plLN plLD plR veW veF veP vsF vsN vsD juM juP juTN juTD juO scN scD noF noN noD neF neN neD arP arB arM arU arF arR arL arT arA arS leN leD grN grD arH arLU arGU shN shD stF stN stD rest) := by
  refine Cg.of (Nat.le_of_ble_eq_true rfl) ?_
  change Rg _ _ _ _ 0 [(0, .ref 2), (1, .int (iI f)), (2, .int (bP v))] [] _ _ _
  refine Rg.step 1 F_PJ_fact_0 rfl (fun _ => rfl) ?_
  refine Rg.bip 3 F_PJ_fact_1 rfl rfl ?_
  refine Rg.call 6 F_PJ_fact_3 rfl (one_S (by decide +kernel) rM_1_71 (by decide) (by simp) rfl rfl) (Nat.le_of_ble_eq_true rfl) (Cg.any (c_idx_ok (by omega) (by omega) (by omega))) ?_
  refine Rg.step 7 F_PJ_fact_6 rfl (fun _ => rfl) ?_
  refine Rg.getf 10 F_PJ_fact_7 rfl rF_1_21 gC_2 rfl ?_
  refine Rg.getf 13 F_PJ_fact_10 rfl rF_1_75 gC_6 rfl ?_
  refine Rg.getf 16 F_PJ_fact_13 rfl rF_1_79 gC_8 rfl ?_
  refine Rg.step 17 F_PJ_fact_16 rfl (fun _ => rfl) ?_
  refine Rg.call 20 F_PJ_fact_17 rfl (one_S (by decide +kernel) rM_1_85 (by decide) (by simp) rfl rfl) (Nat.le_of_ble_eq_true rfl) (Cg.any (c_factBit (by omega))) ?_
  refine Rg.step 21 F_PJ_fact_20 rfl (fun _ => rfl) ?_
  refine Rg.notK 22 F_PJ_fact_21 rfl ?_
  refine Rg.andN 23 F_PJ_fact_22 rfl ?_
  refine Rg.step 24 F_PJ_fact_23 rfl (fun _ => rfl) ?_
  refine Rg.step 25 F_PJ_fact_24 rfl (fun _ => rfl) ?_
  refine Rg.getf 28 F_PJ_fact_25 rfl rF_1_21 gC_2 rfl ?_
  refine Rg.getf 31 F_PJ_fact_28 rfl rF_1_75 gC_6 rfl ?_
  refine Rg.step 32 F_PJ_fact_31 rfl (fun _ => rfl) ?_
  refine Rg.ifeqP 44 35 F_PJ_fact_32 rfl rfl (fun h32 => ?_) (fun h32 => ?_)
  · refine Rg.step 45 F_PJ_fact_44 rfl (fun _ => rfl) ?_
    refine Rg.put 48 F_PJ_fact_45 rfl rF_1_79 gC_8 (by decide) (Nat.le_of_ble_eq_true rfl) (Or.inr (Or.inl rfl)) rfl sO_fiF ?_
    exact Rg.retV F_PJ_fact_48 rfl (congrArg (fun F => (MC s0 s1 handN handD gT gF alE actions alM F fiN fiD epN epD goH goN goD plS plP plM plA plBN plBD plLN plLD plR veW veF veP vsF vsN vsD juM juP juTN juTD juO scN scD noF noN noD neF neN neD arP arB arM arU arF arR arL arT arA arS leN leD grN grD arH arLU arGU shN shD stF stN stD rest)) (fct_f h32))
  · refine Rg.step 36 F_PJ_fact_35 rfl (fun _ => rfl) ?_
    refine Rg.step 37 F_PJ_fact_36 rfl (fun _ => rfl) ?_
    refine Rg.call 40 F_PJ_fact_37 rfl (one_S (by decide +kernel) rM_1_85 (by decide) (by simp) rfl rfl) (Nat.le_of_ble_eq_true rfl) (Cg.any (c_factBit (by omega))) ?_
    refine Rg.orK 41 F_PJ_fact_40 rfl ?_
    refine Rg.step 45 F_PJ_fact_41 rfl (fun _ => rfl) ?_
    refine Rg.put 48 F_PJ_fact_45 rfl rF_1_79 gC_8 (by decide) (Nat.le_of_ble_eq_true rfl) (Or.inr (Or.inl rfl)) rfl sO_fiF ?_
    exact Rg.retV F_PJ_fact_48 rfl (congrArg (fun F => (MC s0 s1 handN handD gT gF alE actions alM F fiN fiD epN epD goH goN goD plS plP plM plA plBN plBD plLN plLD plR veW veF veP vsF vsN vsD juM juP juTN juTD juO scN scD noF noN noD neF neN neD arP arB arM arU arF arR arL arT arA arS leN leD grN grD arH arLU arGU shN shD stF stN stD rest)) (fct_t h32))
theorem c_PJ_fact1 {d : Nat} (b_f : -2147483648 ≤ f ∧ f < 2147483648) (h : ¬ (0 ≤ f ∧ f ≤ 15)) : Cg true (d + 1) m_PJ_fact [.ref 2, .int (iI f), .int (bP v)] (MC s0 s1 handN handD gT gF alE actions alM fiF fiN fiD epN epD goH goN goD plS plP plM plA plBN plBD plLN plLD plR veW veF veP vsF vsN vsD juM juP juTN juTD juO scN scD noF noN noD neF neN neD arP arB arM arU arF arR arL arT arA arS leN leD grN grD arH arLU arGU shN shD stF stN stD rest) (.inr (MC s0 s1 handN handD gT gF alE actions alM fiF fiN fiD epN epD goH goN goD plS plP plM plA plBN plBD plLN plLD plR veW veF veP vsF vsN vsD juM juP juTN juTD juO scN scD noF noN noD neF neN neD arP arB arM arU arF arR arL arT arA arS leN leD grN grD arH arLU arGU shN shD stF stN stD rest).length) ((MC s0 s1 handN handD gT gF alE actions alM fiF fiN fiD epN epD goH goN goD plS plP plM plA plBN plBD plLN plLD plR veW veF veP vsF vsN vsD juM juP juTN juTD juO scN scD noF noN noD neF neN neD arP arB arM arU arF arR arL arT arA arS leN leD grN grD arH arLU arGU shN shD stF stN stD rest) ++ [.inr (13, [])]) := by
  refine Cg.of (Nat.le_of_ble_eq_true rfl) ?_
  change Rg _ _ _ _ 0 [(0, .ref 2), (1, .int (iI f)), (2, .int (bP v))] [] _ _ _
  refine Rg.step 1 F_PJ_fact_0 rfl (fun _ => rfl) ?_
  refine Rg.bip 3 F_PJ_fact_1 rfl rfl ?_
  exact Rg.callT F_PJ_fact_3 (one_S (by decide +kernel) rM_1_71 (by decide) (by simp) rfl rfl) (Nat.le_of_ble_eq_true rfl) (c_idx_no (by omega) (by omega) (by omega)) gX rfl
theorem c_PJ_number {d : Nat}  (h : 0 ≤ n ∧ n ≤ 7) : Cg false (d + 1) m_PJ_number [.ref 2, .int (iI n)] (MC s0 s1 handN handD gT gF alE actions alM fiF fiN fiD epN epD goH goN goD plS plP plM plA plBN plBD plLN plLD plR veW veF veP vsF vsN vsD juM juP juTN juTD juO scN scD noF noN noD neF neN neD arP arB arM arU arF arR arL arT arA arS leN leD grN grD arH arLU arGU shN shD stF stN stD rest) (.inl none) (MC s0 s1 handN handD gT gF alE actions alM fiF (up1 fiN n (handN 0)) (up1 fiD n (handD 0)) epN epD goH goN goD plS plP plM plA plBN plBD plLN plLD plR veW veF veP vsF vsN vsD juM juP juTN juTD juO scN scD noF noN noD neF neN neD arP arB arM arU arF arR arL arT arA arS leN leD grN grD arH arLU arGU shN shD stF stN stD rest) := by
  refine Cg.of (Nat.le_of_ble_eq_true rfl) ?_
  change Rg _ _ _ _ 0 [(0, .ref 2), (1, .int (iI n))] [] _ _ _
  refine Rg.step 1 F_PJ_number_0 rfl (fun _ => rfl) ?_
  refine Rg.bip 3 F_PJ_number_1 rfl rfl ?_
  refine Rg.call 6 F_PJ_number_3 rfl (one_S (by decide +kernel) rM_1_71 (by decide) (by simp) rfl rfl) (Nat.le_of_ble_eq_true rfl) (Cg.any (c_idx_ok (by omega) (by omega) (by omega))) ?_
  refine Rg.step 7 F_PJ_number_6 rfl (fun _ => rfl) ?_
  refine Rg.getf 10 F_PJ_number_7 rfl rF_1_21 gC_2 rfl ?_
  refine Rg.getf 13 F_PJ_number_10 rfl rF_1_75 gC_6 rfl ?_
  refine Rg.getf 16 F_PJ_number_13 rfl rF_1_89 gC_8 rfl ?_
  refine Rg.step 17 F_PJ_number_16 rfl (fun _ => rfl) ?_
  refine Rg.step 18 F_PJ_number_17 rfl (fun _ => rfl) ?_
  refine Rg.getf 21 F_PJ_number_18 rfl rF_1_12 gC_2 rfl ?_
  refine Rg.step 22 F_PJ_number_21 rfl (fun _ => rfl) ?_
  refine Rg.call 25 F_PJ_number_22 rfl (one_V rM_1_67 (by decide) (by simp) rfl rfl gC_9 rfl) (Nat.le_of_ble_eq_true rfl) (Cg.toM sF_fi (c_FrI_copy _ gF_fi gF_hand (by decide) (by omega) (by omega))) ?_
  exact Rg.retV F_PJ_number_25 rfl rfl
theorem c_PJ_number1 {d : Nat} (b_n : -2147483648 ≤ n ∧ n < 2147483648) (h : ¬ (0 ≤ n ∧ n ≤ 7)) : Cg true (d + 1) m_PJ_number [.ref 2, .int (iI n)] (MC s0 s1 handN handD gT gF alE actions alM fiF fiN fiD epN epD goH goN goD plS plP plM plA plBN plBD plLN plLD plR veW veF veP vsF vsN vsD juM juP juTN juTD juO scN scD noF noN noD neF neN neD arP arB arM arU arF arR arL arT arA arS leN leD grN grD arH arLU arGU shN shD stF stN stD rest) (.inr (MC s0 s1 handN handD gT gF alE actions alM fiF fiN fiD epN epD goH goN goD plS plP plM plA plBN plBD plLN plLD plR veW veF veP vsF vsN vsD juM juP juTN juTD juO scN scD noF noN noD neF neN neD arP arB arM arU arF arR arL arT arA arS leN leD grN grD arH arLU arGU shN shD stF stN stD rest).length) ((MC s0 s1 handN handD gT gF alE actions alM fiF fiN fiD epN epD goH goN goD plS plP plM plA plBN plBD plLN plLD plR veW veF veP vsF vsN vsD juM juP juTN juTD juO scN scD noF noN noD neF neN neD arP arB arM arU arF arR arL arT arA arS leN leD grN grD arH arLU arGU shN shD stF stN stD rest) ++ [.inr (13, [])]) := by
  refine Cg.of (Nat.le_of_ble_eq_true rfl) ?_
  change Rg _ _ _ _ 0 [(0, .ref 2), (1, .int (iI n))] [] _ _ _
  refine Rg.step 1 F_PJ_number_0 rfl (fun _ => rfl) ?_
  refine Rg.bip 3 F_PJ_number_1 rfl rfl ?_
  exact Rg.callT F_PJ_number_3 (one_S (by decide +kernel) rM_1_71 (by decide) (by simp) rfl rfl) (Nat.le_of_ble_eq_true rfl) (c_idx_no (by omega) (by omega) (by omega)) gX rfl
theorem c_Ta_wish {d : Nat}  (h : 0 ≤ f ∧ f ≤ 15) (hw : -1 ≤ w ∧ w ≤ 1) : Cg false (d + 1) m_Task_wishFact [.ref 6, .int (iI f), .int (iI w)] (MC s0 s1 handN handD gT gF alE actions alM fiF fiN fiD epN epD goH goN goD plS plP plM plA plBN plBD plLN plLD plR veW veF veP vsF vsN vsD juM juP juTN juTD juO scN scD noF noN noD neF neN neD arP arB arM arU arF arR arL arT arA arS leN leD grN grD arH arLU arGU shN shD stF stN stD rest) (.inl none) (MC s0 s1 handN handD (fun i => (gT i ∧ ¬ i = f) ∨ (w = 1 ∧ i = f)) (fun i => (gF i ∧ ¬ i = f) ∨ (w = 0 ∧ i = f)) alE actions alM fiF fiN fiD epN epD goH goN goD plS plP plM plA plBN plBD plLN plLD plR veW veF veP vsF vsN vsD juM juP juTN juTD juO scN scD noF noN noD neF neN neD arP arB arM arU arF arR arL arT arA arS leN leD grN grD arH arLU arGU shN shD stF stN stD rest) := by
  refine Cg.of (Nat.le_of_ble_eq_true rfl) ?_
  change Rg _ _ _ _ 0 [(0, .ref 6), (1, .int (iI f)), (2, .int (iI w))] [] _ _ _
  refine Rg.step 1 F_Task_wishFact_0 rfl (fun _ => rfl) ?_
  refine Rg.step 2 F_Task_wishFact_1 rfl (fun _ => rfl) ?_
  refine Rg.getf 5 F_Task_wishFact_2 rfl rF_5_53 gC_6 rfl ?_
  refine Rg.step 6 F_Task_wishFact_5 rfl (fun _ => rfl) ?_
  refine Rg.call 9 F_Task_wishFact_6 rfl (one_S (by decide +kernel) rM_5_57 (by decide) (by simp) rfl rfl) (Nat.le_of_ble_eq_true rfl) (Cg.any (c_factBit (by omega))) ?_
  refine Rg.step 10 F_Task_wishFact_9 rfl (fun _ => rfl) ?_
  refine Rg.notK 11 F_Task_wishFact_10 rfl ?_
  refine Rg.andN 12 F_Task_wishFact_11 rfl ?_
  refine Rg.step 13 F_Task_wishFact_12 rfl (fun _ => rfl) ?_
  refine Rg.step 14 F_Task_wishFact_13 rfl (fun _ => rfl) ?_
  refine Rg.icneI 24 17 F_Task_wishFact_14 rfl rfl (by omega) (by omega) (fun h14 => ?_) (fun h14 => ?_)
  · refine Rg.cK0 25 F_Task_wishFact_24 rfl ?_
    refine Rg.orK 26 F_Task_wishFact_25 rfl ?_
    refine Rg.put 29 F_Task_wishFact_26 rfl rF_5_53 gC_6 (by decide) (Nat.le_of_ble_eq_true rfl) (Or.inl rfl) rfl sO_gT ?_
    refine Rg.step 30 F_Task_wishFact_29 rfl (fun _ => rfl) ?_
    refine Rg.step 31 F_Task_wishFact_30 rfl (fun _ => rfl) ?_
    refine Rg.getf 34 F_Task_wishFact_31 rfl rF_5_61 gC_6 rfl ?_
    refine Rg.step 35 F_Task_wishFact_34 rfl (fun _ => rfl) ?_
    refine Rg.call 38 F_Task_wishFact_35 rfl (one_S (by decide +kernel) rM_5_57 (by decide) (by simp) rfl rfl) (Nat.le_of_ble_eq_true rfl) (Cg.any (c_factBit (by omega))) ?_
    refine Rg.step 39 F_Task_wishFact_38 rfl (fun _ => rfl) ?_
    refine Rg.notK 40 F_Task_wishFact_39 rfl ?_
    refine Rg.andN 41 F_Task_wishFact_40 rfl ?_
    refine Rg.step 42 F_Task_wishFact_41 rfl (fun _ => rfl) ?_
    refine Rg.ifneI 52 45 F_Task_wishFact_42 rfl rfl (by omega) (fun h42 => ?_) (fun h42 => ?_)
    · refine Rg.cK0 53 F_Task_wishFact_52 rfl ?_
      refine Rg.orK 54 F_Task_wishFact_53 rfl ?_
      refine Rg.put 57 F_Task_wishFact_54 rfl rF_5_61 gC_6 (by decide) (Nat.le_of_ble_eq_true rfl) (Or.inl rfl) rfl sO_gF ?_
      exact Rg.retV F_Task_wishFact_57 rfl ((congrArg (fun F => (MC s0 s1 handN handD F (fun i => (gF i ∧ ¬ i = f) ∨ False) alE actions alM fiF fiN fiD epN epD goH goN goD plS plP plM plA plBN plBD plLN plLD plR veW veF veP vsF vsN vsD juM juP juTN juTD juO scN scD noF noN noD neF neN neD arP arB arM arU arF arR arL arT arA arS leN leD grN grD arH arLU arGU shN shD stF stN stD rest)) (wsh_f h14)).trans (congrArg (fun G => (MC s0 s1 handN handD (fun i => (gT i ∧ ¬ i = f) ∨ (w = 1 ∧ i = f)) G alE actions alM fiF fiN fiD epN epD goH goN goD plS plP plM plA plBN plBD plLN plLD plR veW veF veP vsF vsN vsD juM juP juTN juTD juO scN scD noF noN noD neF neN neD arP arB arM arU arF arR arL arT arA arS leN leD grN grD arH arLU arGU shN shD stF stN stD rest)) (wsh_f h42)))
    · refine Rg.step 46 F_Task_wishFact_45 rfl (fun _ => rfl) ?_
      refine Rg.call 49 F_Task_wishFact_46 rfl (one_S (by decide +kernel) rM_5_57 (by decide) (by simp) rfl rfl) (Nat.le_of_ble_eq_true rfl) (Cg.any (c_factBit (by omega))) ?_
      refine Rg.step 53 F_Task_wishFact_49 rfl (fun _ => rfl) ?_
      refine Rg.orK 54 F_Task_wishFact_53 rfl ?_
      refine Rg.put 57 F_Task_wishFact_54 rfl rF_5_61 gC_6 (by decide) (Nat.le_of_ble_eq_true rfl) (Or.inl rfl) rfl sO_gF ?_
      exact Rg.retV F_Task_wishFact_57 rfl ((congrArg (fun F => (MC s0 s1 handN handD F (fun i => (gF i ∧ ¬ i = f) ∨ i = f) alE actions alM fiF fiN fiD epN epD goH goN goD plS plP plM plA plBN plBD plLN plLD plR veW veF veP vsF vsN vsD juM juP juTN juTD juO scN scD noF noN noD neF neN neD arP arB arM arU arF arR arL arT arA arS leN leD grN grD arH arLU arGU shN shD stF stN stD rest)) (wsh_f h14)).trans (congrArg (fun G => (MC s0 s1 handN handD (fun i => (gT i ∧ ¬ i = f) ∨ (w = 1 ∧ i = f)) G alE actions alM fiF fiN fiD epN epD goH goN goD plS plP plM plA plBN plBD plLN plLD plR veW veF veP vsF vsN vsD juM juP juTN juTD juO scN scD noF noN noD neF neN neD arP arB arM arU arF arR arL arT arA arS leN leD grN grD arH arLU arGU shN shD stF stN stD rest)) (wsh_t h42)))
  · refine Rg.step 18 F_Task_wishFact_17 rfl (fun _ => rfl) ?_
    refine Rg.call 21 F_Task_wishFact_18 rfl (one_S (by decide +kernel) rM_5_57 (by decide) (by simp) rfl rfl) (Nat.le_of_ble_eq_true rfl) (Cg.any (c_factBit (by omega))) ?_
    refine Rg.step 25 F_Task_wishFact_21 rfl (fun _ => rfl) ?_
    refine Rg.orK 26 F_Task_wishFact_25 rfl ?_
    refine Rg.put 29 F_Task_wishFact_26 rfl rF_5_53 gC_6 (by decide) (Nat.le_of_ble_eq_true rfl) (Or.inl rfl) rfl sO_gT ?_
    refine Rg.step 30 F_Task_wishFact_29 rfl (fun _ => rfl) ?_
    refine Rg.step 31 F_Task_wishFact_30 rfl (fun _ => rfl) ?_
    refine Rg.getf 34 F_Task_wishFact_31 rfl rF_5_61 gC_6 rfl ?_
    refine Rg.step 35 F_Task_wishFact_34 rfl (fun _ => rfl) ?_
    refine Rg.call 38 F_Task_wishFact_35 rfl (one_S (by decide +kernel) rM_5_57 (by decide) (by simp) rfl rfl) (Nat.le_of_ble_eq_true rfl) (Cg.any (c_factBit (by omega))) ?_
    refine Rg.step 39 F_Task_wishFact_38 rfl (fun _ => rfl) ?_
    refine Rg.notK 40 F_Task_wishFact_39 rfl ?_
    refine Rg.andN 41 F_Task_wishFact_40 rfl ?_
    refine Rg.step 42 F_Task_wishFact_41 rfl (fun _ => rfl) ?_
    refine Rg.ifneI 52 45 F_Task_wishFact_42 rfl rfl (by omega) (fun h42 => ?_) (fun h42 => ?_)
    · refine Rg.cK0 53 F_Task_wishFact_52 rfl ?_
      refine Rg.orK 54 F_Task_wishFact_53 rfl ?_
      refine Rg.put 57 F_Task_wishFact_54 rfl rF_5_61 gC_6 (by decide) (Nat.le_of_ble_eq_true rfl) (Or.inl rfl) rfl sO_gF ?_
      exact Rg.retV F_Task_wishFact_57 rfl ((congrArg (fun F => (MC s0 s1 handN handD F (fun i => (gF i ∧ ¬ i = f) ∨ False) alE actions alM fiF fiN fiD epN epD goH goN goD plS plP plM plA plBN plBD plLN plLD plR veW veF veP vsF vsN vsD juM juP juTN juTD juO scN scD noF noN noD neF neN neD arP arB arM arU arF arR arL arT arA arS leN leD grN grD arH arLU arGU shN shD stF stN stD rest)) (wsh_t h14)).trans (congrArg (fun G => (MC s0 s1 handN handD (fun i => (gT i ∧ ¬ i = f) ∨ (w = 1 ∧ i = f)) G alE actions alM fiF fiN fiD epN epD goH goN goD plS plP plM plA plBN plBD plLN plLD plR veW veF veP vsF vsN vsD juM juP juTN juTD juO scN scD noF noN noD neF neN neD arP arB arM arU arF arR arL arT arA arS leN leD grN grD arH arLU arGU shN shD stF stN stD rest)) (wsh_f h42)))
    · refine Rg.step 46 F_Task_wishFact_45 rfl (fun _ => rfl) ?_
      refine Rg.call 49 F_Task_wishFact_46 rfl (one_S (by decide +kernel) rM_5_57 (by decide) (by simp) rfl rfl) (Nat.le_of_ble_eq_true rfl) (Cg.any (c_factBit (by omega))) ?_
      refine Rg.step 53 F_Task_wishFact_49 rfl (fun _ => rfl) ?_
      refine Rg.orK 54 F_Task_wishFact_53 rfl ?_
      refine Rg.put 57 F_Task_wishFact_54 rfl rF_5_61 gC_6 (by decide) (Nat.le_of_ble_eq_true rfl) (Or.inl rfl) rfl sO_gF ?_
      exact Rg.retV F_Task_wishFact_57 rfl ((congrArg (fun F => (MC s0 s1 handN handD F (fun i => (gF i ∧ ¬ i = f) ∨ i = f) alE actions alM fiF fiN fiD epN epD goH goN goD plS plP plM plA plBN plBD plLN plLD plR veW veF veP vsF vsN vsD juM juP juTN juTD juO scN scD noF noN noD neF neN neD arP arB arM arU arF arR arL arT arA arS leN leD grN grD arH arLU arGU shN shD stF stN stD rest)) (wsh_t h14)).trans (congrArg (fun G => (MC s0 s1 handN handD (fun i => (gT i ∧ ¬ i = f) ∨ (w = 1 ∧ i = f)) G alE actions alM fiF fiN fiD epN epD goH goN goD plS plP plM plA plBN plBD plLN plLD plR veW veF veP vsF vsN vsD juM juP juTN juTD juO scN scD noF noN noD neF neN neD arP arB arM arU arF arR arL arT arA arS leN leD grN grD arH arLU arGU shN shD stF stN stD rest)) (wsh_t h42)))
theorem c_PJ_wish {d : Nat}  (h : 0 ≤ f ∧ f ≤ 15) (hw : -1 ≤ w ∧ w ≤ 1) : Cg false (d + 2) m_PJ_wish [.ref 2, .int (iI f), .int (iI w)] (MC s0 s1 handN handD gT gF alE actions alM fiF fiN fiD epN epD goH goN goD plS plP plM plA plBN plBD plLN plLD plR veW veF veP vsF vsN vsD juM juP juTN juTD juO scN scD noF noN noD neF neN neD arP arB arM arU arF arR arL arT arA arS leN leD grN grD arH arLU arGU shN shD stF stN stD rest) (.inl none) (MC s0 s1 handN handD (fun i => (gT i ∧ ¬ i = f) ∨ (w = 1 ∧ i = f)) (fun i => (gF i ∧ ¬ i = f) ∨ (w = 0 ∧ i = f)) alE actions alM fiF fiN fiD epN epD goH goN goD plS plP plM plA plBN plBD plLN plLD plR veW veF veP vsF vsN vsD juM juP juTN juTD juO scN scD noF noN noD neF neN neD arP arB arM arU arF arR arL arT arA arS leN leD grN grD arH arLU arGU shN shD stF stN stD rest) := by
  refine Cg.of (Nat.le_of_ble_eq_true rfl) ?_
  change Rg _ _ _ _ 0 [(0, .ref 2), (1, .int (iI f)), (2, .int (iI w))] [] _ _ _
  refine Rg.step 1 F_PJ_wish_0 rfl (fun _ => rfl) ?_
  refine Rg.bip 3 F_PJ_wish_1 rfl rfl ?_
  refine Rg.call 6 F_PJ_wish_3 rfl (one_S (by decide +kernel) rM_1_71 (by decide) (by simp) rfl rfl) (Nat.le_of_ble_eq_true rfl) (Cg.any (c_idx_ok (by omega) (by omega) (by omega))) ?_
  refine Rg.step 7 F_PJ_wish_6 rfl (fun _ => rfl) ?_
  refine Rg.step 8 F_PJ_wish_7 rfl (fun _ => rfl) ?_
  refine Rg.step 9 F_PJ_wish_8 rfl (fun _ => rfl) ?_
  refine Rg.call 12 F_PJ_wish_9 rfl (one_S (by decide +kernel) rM_1_92 (by decide) (by simp) rfl rfl) (Nat.le_of_ble_eq_true rfl) (Cg.any (c_chk_ok (by omega) (by omega) (by omega) (by omega))) ?_
  refine Rg.step 13 F_PJ_wish_12 rfl (fun _ => rfl) ?_
  refine Rg.getf 16 F_PJ_wish_13 rfl rF_1_21 gC_2 rfl ?_
  refine Rg.step 17 F_PJ_wish_16 rfl (fun _ => rfl) ?_
  refine Rg.step 18 F_PJ_wish_17 rfl (fun _ => rfl) ?_
  refine Rg.call 21 F_PJ_wish_18 rfl (one_V rM_1_95 (by decide) (by simp) rfl rfl gC_6 rfl) (Nat.le_of_ble_eq_true rfl) (c_Ta_wish h hw) ?_
  exact Rg.retV F_PJ_wish_21 rfl rfl
theorem c_PJ_wish1 {d : Nat} (b_f : -2147483648 ≤ f ∧ f < 2147483648) (h : ¬ (0 ≤ f ∧ f ≤ 15)) : Cg true (d + 1) m_PJ_wish [.ref 2, .int (iI f), .int (iI w)] (MC s0 s1 handN handD gT gF alE actions alM fiF fiN fiD epN epD goH goN goD plS plP plM plA plBN plBD plLN plLD plR veW veF veP vsF vsN vsD juM juP juTN juTD juO scN scD noF noN noD neF neN neD arP arB arM arU arF arR arL arT arA arS leN leD grN grD arH arLU arGU shN shD stF stN stD rest) (.inr (MC s0 s1 handN handD gT gF alE actions alM fiF fiN fiD epN epD goH goN goD plS plP plM plA plBN plBD plLN plLD plR veW veF veP vsF vsN vsD juM juP juTN juTD juO scN scD noF noN noD neF neN neD arP arB arM arU arF arR arL arT arA arS leN leD grN grD arH arLU arGU shN shD stF stN stD rest).length) ((MC s0 s1 handN handD gT gF alE actions alM fiF fiN fiD epN epD goH goN goD plS plP plM plA plBN plBD plLN plLD plR veW veF veP vsF vsN vsD juM juP juTN juTD juO scN scD noF noN noD neF neN neD arP arB arM arU arF arR arL arT arA arS leN leD grN grD arH arLU arGU shN shD stF stN stD rest) ++ [.inr (13, [])]) := by
  refine Cg.of (Nat.le_of_ble_eq_true rfl) ?_
  change Rg _ _ _ _ 0 [(0, .ref 2), (1, .int (iI f)), (2, .int (iI w))] [] _ _ _
  refine Rg.step 1 F_PJ_wish_0 rfl (fun _ => rfl) ?_
  refine Rg.bip 3 F_PJ_wish_1 rfl rfl ?_
  exact Rg.callT F_PJ_wish_3 (one_S (by decide +kernel) rM_1_71 (by decide) (by simp) rfl rfl) (Nat.le_of_ble_eq_true rfl) (c_idx_no (by omega) (by omega) (by omega)) gX rfl
theorem c_PJ_wish2 {d : Nat} (b_w : -2147483648 ≤ w ∧ w < 2147483648) (h : 0 ≤ f ∧ f ≤ 15) (hw : ¬ (-1 ≤ w ∧ w ≤ 1)) : Cg true (d + 1) m_PJ_wish [.ref 2, .int (iI f), .int (iI w)] (MC s0 s1 handN handD gT gF alE actions alM fiF fiN fiD epN epD goH goN goD plS plP plM plA plBN plBD plLN plLD plR veW veF veP vsF vsN vsD juM juP juTN juTD juO scN scD noF noN noD neF neN neD arP arB arM arU arF arR arL arT arA arS leN leD grN grD arH arLU arGU shN shD stF stN stD rest) (.inr (MC s0 s1 handN handD gT gF alE actions alM fiF fiN fiD epN epD goH goN goD plS plP plM plA plBN plBD plLN plLD plR veW veF veP vsF vsN vsD juM juP juTN juTD juO scN scD noF noN noD neF neN neD arP arB arM arU arF arR arL arT arA arS leN leD grN grD arH arLU arGU shN shD stF stN stD rest).length) ((MC s0 s1 handN handD gT gF alE actions alM fiF fiN fiD epN epD goH goN goD plS plP plM plA plBN plBD plLN plLD plR veW veF veP vsF vsN vsD juM juP juTN juTD juO scN scD noF noN noD neF neN neD arP arB arM arU arF arR arL arT arA arS leN leD grN grD arH arLU arGU shN shD stF stN stD rest) ++ [.inr (12, [])]) := by
  refine Cg.of (Nat.le_of_ble_eq_true rfl) ?_
  change Rg _ _ _ _ 0 [(0, .ref 2), (1, .int (iI f)), (2, .int (iI w))] [] _ _ _
  refine Rg.step 1 F_PJ_wish_0 rfl (fun _ => rfl) ?_
  refine Rg.bip 3 F_PJ_wish_1 rfl rfl ?_
  refine Rg.call 6 F_PJ_wish_3 rfl (one_S (by decide +kernel) rM_1_71 (by decide) (by simp) rfl rfl) (Nat.le_of_ble_eq_true rfl) (Cg.any (c_idx_ok (by omega) (by omega) (by omega))) ?_
  refine Rg.step 7 F_PJ_wish_6 rfl (fun _ => rfl) ?_
  refine Rg.step 8 F_PJ_wish_7 rfl (fun _ => rfl) ?_
  refine Rg.step 9 F_PJ_wish_8 rfl (fun _ => rfl) ?_
  exact Rg.callT F_PJ_wish_9 (one_S (by decide +kernel) rM_1_92 (by decide) (by simp) rfl rfl) (Nat.le_of_ble_eq_true rfl) (c_chk_no (by omega) (by omega) (by omega) (by omega)) gX rfl
theorem c_PJ_want {d : Nat}  (h : 0 ≤ n ∧ n ≤ 7) (hw : -1 ≤ w ∧ w ≤ 4) : Cg false (d + 1) m_PJ_want [.ref 2, .int (iI n), .int (iI w)] (MC s0 s1 handN handD gT gF alE actions alM fiF fiN fiD epN epD goH goN goD plS plP plM plA plBN plBD plLN plLD plR veW veF veP vsF vsN vsD juM juP juTN juTD juO scN scD noF noN noD neF neN neD arP arB arM arU arF arR arL arT arA arS leN leD grN grD arH arLU arGU shN shD stF stN stD rest) (.inl none) (MC s0 s1 handN handD gT gF alE actions alM fiF fiN fiD epN epD (up1 goH n w) (up1 goN n (handN 0)) (up1 goD n (handD 0)) plS plP plM plA plBN plBD plLN plLD plR veW veF veP vsF vsN vsD juM juP juTN juTD juO scN scD noF noN noD neF neN neD arP arB arM arU arF arR arL arT arA arS leN leD grN grD arH arLU arGU shN shD stF stN stD rest) := by
  refine Cg.of (Nat.le_of_ble_eq_true rfl) ?_
  change Rg _ _ _ _ 0 [(0, .ref 2), (1, .int (iI n)), (2, .int (iI w))] [] _ _ _
  refine Rg.step 1 F_PJ_want_0 rfl (fun _ => rfl) ?_
  refine Rg.bip 3 F_PJ_want_1 rfl rfl ?_
  refine Rg.call 6 F_PJ_want_3 rfl (one_S (by decide +kernel) rM_1_71 (by decide) (by simp) rfl rfl) (Nat.le_of_ble_eq_true rfl) (Cg.any (c_idx_ok (by omega) (by omega) (by omega))) ?_
  refine Rg.step 7 F_PJ_want_6 rfl (fun _ => rfl) ?_
  refine Rg.step 8 F_PJ_want_7 rfl (fun _ => rfl) ?_
  refine Rg.step 9 F_PJ_want_8 rfl (fun _ => rfl) ?_
  refine Rg.call 12 F_PJ_want_9 rfl (one_S (by decide +kernel) rM_1_92 (by decide) (by simp) rfl rfl) (Nat.le_of_ble_eq_true rfl) (Cg.any (c_chk_ok (by omega) (by omega) (by omega) (by omega))) ?_
  refine Rg.step 13 F_PJ_want_12 rfl (fun _ => rfl) ?_
  refine Rg.getf 16 F_PJ_want_13 rfl rF_1_21 gC_2 rfl ?_
  refine Rg.getf 19 F_PJ_want_16 rfl rF_1_98 gC_6 rfl ?_
  refine Rg.step 20 F_PJ_want_19 rfl (fun _ => rfl) ?_
  refine Rg.step 21 F_PJ_want_20 rfl (fun _ => rfl) ?_
  refine Rg.ist 22 F_PJ_want_21 rfl gC_15 (by decide) sC_goH (by omega) (by decide) ?_
  refine Rg.step 23 F_PJ_want_22 rfl (fun _ => rfl) ?_
  refine Rg.getf 26 F_PJ_want_23 rfl rF_1_21 gC_2 rfl ?_
  refine Rg.getf 29 F_PJ_want_26 rfl rF_1_102 gC_6 rfl ?_
  refine Rg.step 30 F_PJ_want_29 rfl (fun _ => rfl) ?_
  refine Rg.step 31 F_PJ_want_30 rfl (fun _ => rfl) ?_
  refine Rg.getf 34 F_PJ_want_31 rfl rF_1_12 gC_2 rfl ?_
  refine Rg.step 35 F_PJ_want_34 rfl (fun _ => rfl) ?_
  refine Rg.call 38 F_PJ_want_35 rfl (one_V rM_1_67 (by decide) (by simp) rfl rfl gC_16 rfl) (Nat.le_of_ble_eq_true rfl) (Cg.toM sF_go (c_FrI_copy _ gF_go gF_hand (by decide) (by omega) (by omega))) ?_
  exact Rg.retV F_PJ_want_38 rfl rfl
theorem c_PJ_want1 {d : Nat} (b_n : -2147483648 ≤ n ∧ n < 2147483648) (h : ¬ (0 ≤ n ∧ n ≤ 7)) : Cg true (d + 1) m_PJ_want [.ref 2, .int (iI n), .int (iI w)] (MC s0 s1 handN handD gT gF alE actions alM fiF fiN fiD epN epD goH goN goD plS plP plM plA plBN plBD plLN plLD plR veW veF veP vsF vsN vsD juM juP juTN juTD juO scN scD noF noN noD neF neN neD arP arB arM arU arF arR arL arT arA arS leN leD grN grD arH arLU arGU shN shD stF stN stD rest) (.inr (MC s0 s1 handN handD gT gF alE actions alM fiF fiN fiD epN epD goH goN goD plS plP plM plA plBN plBD plLN plLD plR veW veF veP vsF vsN vsD juM juP juTN juTD juO scN scD noF noN noD neF neN neD arP arB arM arU arF arR arL arT arA arS leN leD grN grD arH arLU arGU shN shD stF stN stD rest).length) ((MC s0 s1 handN handD gT gF alE actions alM fiF fiN fiD epN epD goH goN goD plS plP plM plA plBN plBD plLN plLD plR veW veF veP vsF vsN vsD juM juP juTN juTD juO scN scD noF noN noD neF neN neD arP arB arM arU arF arR arL arT arA arS leN leD grN grD arH arLU arGU shN shD stF stN stD rest) ++ [.inr (13, [])]) := by
  refine Cg.of (Nat.le_of_ble_eq_true rfl) ?_
  change Rg _ _ _ _ 0 [(0, .ref 2), (1, .int (iI n)), (2, .int (iI w))] [] _ _ _
  refine Rg.step 1 F_PJ_want_0 rfl (fun _ => rfl) ?_
  refine Rg.bip 3 F_PJ_want_1 rfl rfl ?_
  exact Rg.callT F_PJ_want_3 (one_S (by decide +kernel) rM_1_71 (by decide) (by simp) rfl rfl) (Nat.le_of_ble_eq_true rfl) (c_idx_no (by omega) (by omega) (by omega)) gX rfl
theorem c_PJ_want2 {d : Nat} (b_w : -2147483648 ≤ w ∧ w < 2147483648) (h : 0 ≤ n ∧ n ≤ 7) (hw : ¬ (-1 ≤ w ∧ w ≤ 4)) : Cg true (d + 1) m_PJ_want [.ref 2, .int (iI n), .int (iI w)] (MC s0 s1 handN handD gT gF alE actions alM fiF fiN fiD epN epD goH goN goD plS plP plM plA plBN plBD plLN plLD plR veW veF veP vsF vsN vsD juM juP juTN juTD juO scN scD noF noN noD neF neN neD arP arB arM arU arF arR arL arT arA arS leN leD grN grD arH arLU arGU shN shD stF stN stD rest) (.inr (MC s0 s1 handN handD gT gF alE actions alM fiF fiN fiD epN epD goH goN goD plS plP plM plA plBN plBD plLN plLD plR veW veF veP vsF vsN vsD juM juP juTN juTD juO scN scD noF noN noD neF neN neD arP arB arM arU arF arR arL arT arA arS leN leD grN grD arH arLU arGU shN shD stF stN stD rest).length) ((MC s0 s1 handN handD gT gF alE actions alM fiF fiN fiD epN epD goH goN goD plS plP plM plA plBN plBD plLN plLD plR veW veF veP vsF vsN vsD juM juP juTN juTD juO scN scD noF noN noD neF neN neD arP arB arM arU arF arR arL arT arA arS leN leD grN grD arH arLU arGU shN shD stF stN stD rest) ++ [.inr (12, [])]) := by
  refine Cg.of (Nat.le_of_ble_eq_true rfl) ?_
  change Rg _ _ _ _ 0 [(0, .ref 2), (1, .int (iI n)), (2, .int (iI w))] [] _ _ _
  refine Rg.step 1 F_PJ_want_0 rfl (fun _ => rfl) ?_
  refine Rg.bip 3 F_PJ_want_1 rfl rfl ?_
  refine Rg.call 6 F_PJ_want_3 rfl (one_S (by decide +kernel) rM_1_71 (by decide) (by simp) rfl rfl) (Nat.le_of_ble_eq_true rfl) (Cg.any (c_idx_ok (by omega) (by omega) (by omega))) ?_
  refine Rg.step 7 F_PJ_want_6 rfl (fun _ => rfl) ?_
  refine Rg.step 8 F_PJ_want_7 rfl (fun _ => rfl) ?_
  refine Rg.step 9 F_PJ_want_8 rfl (fun _ => rfl) ?_
  exact Rg.callT F_PJ_want_9 (one_S (by decide +kernel) rM_1_92 (by decide) (by simp) rfl rfl) (Nat.le_of_ble_eq_true rfl) (c_chk_no (by omega) (by omega) (by omega) (by omega)) gX rfl
theorem c_PJ_step {d : Nat}  (wA : 0 ≤ actions ∧ actions ≤ 12) (wS : 0 ≤ plS ∧ plS < 12) (b0 : -4611686018427387904 < handN 0 ∧ handN 0 < 4611686018427387904) (b1 : -4611686018427387904 < handN 1 ∧ handN 1 < 4611686018427387904) (ha : 0 ≤ a ∧ a < actions) (h : ¬ handN 1 < 0 ∧ 0 < handN 0) : Cg false (d + 1) m_PJ_step [.ref 2, .int (iI a)] (MC s0 s1 handN handD gT gF alE actions alM fiF fiN fiD epN epD goH goN goD plS plP plM plA plBN plBD plLN plLD plR veW veF veP vsF vsN vsD juM juP juTN juTD juO scN scD noF noN noD neF neN neD arP arB arM arU arF arR arL arT arA arS leN leD grN grD arH arLU arGU shN shD stF stN stD rest) (.inl (some (.int (iI plS)))) (MC s0 s1 handN handD gT gF alE actions alM fiF fiN fiD epN epD goH goN goD (plS + 1) plP plM (up1 plA plS a) (up1 plBN plS (handN 1)) (up1 plBD plS (handD 1)) (up1 plLN plS (handN 0)) (up1 plLD plS (handD 0)) plR veW veF veP vsF vsN vsD juM juP juTN juTD juO scN scD noF noN noD neF neN neD arP arB arM arU arF arR arL arT arA arS leN leD grN grD arH arLU arGU shN shD stF stN stD rest) := by
  refine Cg.of (Nat.le_of_ble_eq_true rfl) ?_
  change Rg _ _ _ _ 0 [(0, .ref 2), (1, .int (iI a))] [] _ _ _
  refine Rg.step 1 F_PJ_step_0 rfl (fun _ => rfl) ?_
  refine Rg.step 2 F_PJ_step_1 rfl (fun _ => rfl) ?_
  refine Rg.getf 5 F_PJ_step_2 rfl rF_1_21 gC_2 rfl ?_
  refine Rg.getf 8 F_PJ_step_5 rfl rF_1_105 gC_6 rfl ?_
  refine Rg.call 11 F_PJ_step_8 rfl (one_V rM_1_109 (by decide) (by simp) rfl rfl gC_7 rfl) (Nat.le_of_ble_eq_true rfl) (Cg.any c_list_size) ?_
  refine Rg.call 14 F_PJ_step_11 rfl (one_S (by decide +kernel) rM_1_71 (by decide) (by simp) rfl rfl) (Nat.le_of_ble_eq_true rfl) (Cg.any (c_idx_ok (by omega) (by omega) (by omega))) ?_
  refine Rg.step 15 F_PJ_step_14 rfl (fun _ => rfl) ?_
  refine Rg.getf 18 F_PJ_step_15 rfl rF_1_12 gC_2 rfl ?_
  refine Rg.getf 21 F_PJ_step_18 rfl rF_1_57 gC_3 rfl ?_
  refine Rg.step 22 F_PJ_step_21 rfl (fun _ => rfl) ?_
  refine Rg.lld 23 F_PJ_step_22 rfl gC_4 (by omega) (by decide) ?_
  refine Rg.lcn (n := 0) 24 F_PJ_step_23 rfl rfl ?_
  refine Rg.lclt 42 28 F_PJ_step_24 F_PJ_step_25 rfl rfl (by omega) (by omega) (fun h24 => by omega) (fun _ => ?_)
  refine Rg.step 29 F_PJ_step_28 rfl (fun _ => rfl) ?_
  refine Rg.getf 32 F_PJ_step_29 rfl rF_1_12 gC_2 rfl ?_
  refine Rg.getf 35 F_PJ_step_32 rfl rF_1_57 gC_3 rfl ?_
  refine Rg.step 36 F_PJ_step_35 rfl (fun _ => rfl) ?_
  refine Rg.lld 37 F_PJ_step_36 rfl gC_4 (by omega) (by decide) ?_
  refine Rg.lcn (n := 0) 38 F_PJ_step_37 rfl rfl ?_
  refine Rg.lcgt 50 42 F_PJ_step_38 F_PJ_step_39 rfl rfl (by omega) (by omega) (fun _ => ?_) (fun h38 => by omega)
  refine Rg.step 51 F_PJ_step_50 rfl (fun _ => rfl) ?_
  refine Rg.getf 54 F_PJ_step_51 rfl rF_1_28 gC_2 rfl ?_
  refine Rg.getf 57 F_PJ_step_54 rfl rF_1_160 gC_19 rfl ?_
  refine Rg.bip 59 F_PJ_step_57 rfl rfl ?_
  refine Rg.call 62 F_PJ_step_59 rfl (one_S (by decide +kernel) rM_1_115 (by decide) (by simp) rfl rfl) (Nat.le_of_ble_eq_true rfl) (Cg.any (c_room_ok (by omega) (by omega) (by omega))) ?_
  refine Rg.step 63 F_PJ_step_62 rfl (fun _ => rfl) ?_
  refine Rg.getf 66 F_PJ_step_63 rfl rF_1_28 gC_2 rfl ?_
  refine Rg.getf 69 F_PJ_step_66 rfl rF_1_163 gC_19 rfl ?_
  refine Rg.step 70 F_PJ_step_69 rfl (fun _ => rfl) ?_
  refine Rg.getf 73 F_PJ_step_70 rfl rF_1_28 gC_2 rfl ?_
  refine Rg.getf 76 F_PJ_step_73 rfl rF_1_160 gC_19 rfl ?_
  refine Rg.step 77 F_PJ_step_76 rfl (fun _ => rfl) ?_
  refine Rg.getf 80 F_PJ_step_77 rfl rF_1_12 gC_2 rfl ?_
  refine Rg.step 81 F_PJ_step_80 rfl (fun _ => rfl) ?_
  refine Rg.call 84 F_PJ_step_81 rfl (one_V rM_1_67 (by decide) (by simp) rfl rfl gC_21 rfl) (Nat.le_of_ble_eq_true rfl) (Cg.toM sF_plB (c_FrI_copy _ gF_plB gF_hand (by decide) (by omega) (by omega))) ?_
  refine Rg.step 85 F_PJ_step_84 rfl (fun _ => rfl) ?_
  refine Rg.getf 88 F_PJ_step_85 rfl rF_1_28 gC_2 rfl ?_
  refine Rg.getf 91 F_PJ_step_88 rfl rF_1_166 gC_19 rfl ?_
  refine Rg.step 92 F_PJ_step_91 rfl (fun _ => rfl) ?_
  refine Rg.getf 95 F_PJ_step_92 rfl rF_1_28 gC_2 rfl ?_
  refine Rg.getf 98 F_PJ_step_95 rfl rF_1_160 gC_19 rfl ?_
  refine Rg.step 99 F_PJ_step_98 rfl (fun _ => rfl) ?_
  refine Rg.getf 102 F_PJ_step_99 rfl rF_1_12 gC_2 rfl ?_
  refine Rg.step 103 F_PJ_step_102 rfl (fun _ => rfl) ?_
  refine Rg.call 106 F_PJ_step_103 rfl (one_V rM_1_67 (by decide) (by simp) rfl rfl gC_24 rfl) (Nat.le_of_ble_eq_true rfl) (Cg.toM sF_plL (c_FrI_copy _ gF_plL gF_hand (by decide) (by omega) (by omega))) ?_
  refine Rg.step 107 F_PJ_step_106 rfl (fun _ => rfl) ?_
  refine Rg.getf 110 F_PJ_step_107 rfl rF_1_28 gC_2 rfl ?_
  refine Rg.step 111 F_PJ_step_110 rfl (fun _ => rfl) ?_
  refine Rg.call 114 F_PJ_step_111 rfl (one_V rM_1_169 (by decide) (by simp) rfl rfl gC_19 rfl) (Nat.le_of_ble_eq_true rfl) (c_Pl_addStep (by omega)) ?_
  exact Rg.retI F_PJ_step_114 rfl rfl rfl
theorem c_PJ_step1 {d : Nat} (wA : 0 ≤ actions ∧ actions ≤ 12) (b_a : -2147483648 ≤ a ∧ a < 2147483648) (ha : ¬ (0 ≤ a ∧ a < actions)) : Cg true (d + 1) m_PJ_step [.ref 2, .int (iI a)] (MC s0 s1 handN handD gT gF alE actions alM fiF fiN fiD epN epD goH goN goD plS plP plM plA plBN plBD plLN plLD plR veW veF veP vsF vsN vsD juM juP juTN juTD juO scN scD noF noN noD neF neN neD arP arB arM arU arF arR arL arT arA arS leN leD grN grD arH arLU arGU shN shD stF stN stD rest) (.inr (MC s0 s1 handN handD gT gF alE actions alM fiF fiN fiD epN epD goH goN goD plS plP plM plA plBN plBD plLN plLD plR veW veF veP vsF vsN vsD juM juP juTN juTD juO scN scD noF noN noD neF neN neD arP arB arM arU arF arR arL arT arA arS leN leD grN grD arH arLU arGU shN shD stF stN stD rest).length) ((MC s0 s1 handN handD gT gF alE actions alM fiF fiN fiD epN epD goH goN goD plS plP plM plA plBN plBD plLN plLD plR veW veF veP vsF vsN vsD juM juP juTN juTD juO scN scD noF noN noD neF neN neD arP arB arM arU arF arR arL arT arA arS leN leD grN grD arH arLU arGU shN shD stF stN stD rest) ++ [.inr (13, [])]) := by
  refine Cg.of (Nat.le_of_ble_eq_true rfl) ?_
  change Rg _ _ _ _ 0 [(0, .ref 2), (1, .int (iI a))] [] _ _ _
  refine Rg.step 1 F_PJ_step_0 rfl (fun _ => rfl) ?_
  refine Rg.step 2 F_PJ_step_1 rfl (fun _ => rfl) ?_
  refine Rg.getf 5 F_PJ_step_2 rfl rF_1_21 gC_2 rfl ?_
  refine Rg.getf 8 F_PJ_step_5 rfl rF_1_105 gC_6 rfl ?_
  refine Rg.call 11 F_PJ_step_8 rfl (one_V rM_1_109 (by decide) (by simp) rfl rfl gC_7 rfl) (Nat.le_of_ble_eq_true rfl) (Cg.any c_list_size) ?_
  exact Rg.callT F_PJ_step_11 (one_S (by decide +kernel) rM_1_71 (by decide) (by simp) rfl rfl) (Nat.le_of_ble_eq_true rfl) (c_idx_no (by omega) (by omega) (by omega)) gX rfl
theorem c_PJ_step2 {d : Nat} (wA : 0 ≤ actions ∧ actions ≤ 12) (b0 : -4611686018427387904 < handN 0 ∧ handN 0 < 4611686018427387904) (b1 : -4611686018427387904 < handN 1 ∧ handN 1 < 4611686018427387904) (ha : 0 ≤ a ∧ a < actions) (h : ¬ (¬ handN 1 < 0 ∧ 0 < handN 0)) : Cg true (d + 1) m_PJ_step [.ref 2, .int (iI a)] (MC s0 s1 handN handD gT gF alE actions alM fiF fiN fiD epN epD goH goN goD plS plP plM plA plBN plBD plLN plLD plR veW veF veP vsF vsN vsD juM juP juTN juTD juO scN scD noF noN noD neF neN neD arP arB arM arU arF arR arL arT arA arS leN leD grN grD arH arLU arGU shN shD stF stN stD rest) (.inr (MC s0 s1 handN handD gT gF alE actions alM fiF fiN fiD epN epD goH goN goD plS plP plM plA plBN plBD plLN plLD plR veW veF veP vsF vsN vsD juM juP juTN juTD juO scN scD noF noN noD neF neN neD arP arB arM arU arF arR arL arT arA arS leN leD grN grD arH arLU arGU shN shD stF stN stD rest).length) ((MC s0 s1 handN handD gT gF alE actions alM fiF fiN fiD epN epD goH goN goD plS plP plM plA plBN plBD plLN plLD plR veW veF veP vsF vsN vsD juM juP juTN juTD juO scN scD noF noN noD neF neN neD arP arB arM arU arF arR arL arT arA arS leN leD grN grD arH arLU arGU shN shD stF stN stD rest) ++ [.inr (12, [])]) := by
  refine Cg.of (Nat.le_of_ble_eq_true rfl) ?_
  change Rg _ _ _ _ 0 [(0, .ref 2), (1, .int (iI a))] [] _ _ _
  refine Rg.step 1 F_PJ_step_0 rfl (fun _ => rfl) ?_
  refine Rg.step 2 F_PJ_step_1 rfl (fun _ => rfl) ?_
  refine Rg.getf 5 F_PJ_step_2 rfl rF_1_21 gC_2 rfl ?_
  refine Rg.getf 8 F_PJ_step_5 rfl rF_1_105 gC_6 rfl ?_
  refine Rg.call 11 F_PJ_step_8 rfl (one_V rM_1_109 (by decide) (by simp) rfl rfl gC_7 rfl) (Nat.le_of_ble_eq_true rfl) (Cg.any c_list_size) ?_
  refine Rg.call 14 F_PJ_step_11 rfl (one_S (by decide +kernel) rM_1_71 (by decide) (by simp) rfl rfl) (Nat.le_of_ble_eq_true rfl) (Cg.any (c_idx_ok (by omega) (by omega) (by omega))) ?_
  refine Rg.step 15 F_PJ_step_14 rfl (fun _ => rfl) ?_
  refine Rg.getf 18 F_PJ_step_15 rfl rF_1_12 gC_2 rfl ?_
  refine Rg.getf 21 F_PJ_step_18 rfl rF_1_57 gC_3 rfl ?_
  refine Rg.step 22 F_PJ_step_21 rfl (fun _ => rfl) ?_
  refine Rg.lld 23 F_PJ_step_22 rfl gC_4 (by omega) (by decide) ?_
  refine Rg.lcn (n := 0) 24 F_PJ_step_23 rfl rfl ?_
  refine Rg.lclt 42 28 F_PJ_step_24 F_PJ_step_25 rfl rfl (by omega) (by omega) (fun h24 => ?_) (fun h24 => ?_)
  · exact Rg.thr F_PJ_step_42 F_PJ_step_45 F_PJ_step_46 F_PJ_step_49 rC_1_61 rfl (by decide) rE_1_63 rfl rfl (Nat.le_of_ble_eq_true rfl)
  · refine Rg.step 29 F_PJ_step_28 rfl (fun _ => rfl) ?_
    refine Rg.getf 32 F_PJ_step_29 rfl rF_1_12 gC_2 rfl ?_
    refine Rg.getf 35 F_PJ_step_32 rfl rF_1_57 gC_3 rfl ?_
    refine Rg.step 36 F_PJ_step_35 rfl (fun _ => rfl) ?_
    refine Rg.lld 37 F_PJ_step_36 rfl gC_4 (by omega) (by decide) ?_
    refine Rg.lcn (n := 0) 38 F_PJ_step_37 rfl rfl ?_
    refine Rg.lcgt 50 42 F_PJ_step_38 F_PJ_step_39 rfl rfl (by omega) (by omega) (fun h38 => by omega) (fun _ => ?_)
    exact Rg.thr F_PJ_step_42 F_PJ_step_45 F_PJ_step_46 F_PJ_step_49 rC_1_61 rfl (by decide) rE_1_63 rfl rfl (Nat.le_of_ble_eq_true rfl)
theorem c_PJ_step3 {d : Nat} (wA : 0 ≤ actions ∧ actions ≤ 12) (wS : plS = 12) (b0 : -4611686018427387904 < handN 0 ∧ handN 0 < 4611686018427387904) (b1 : -4611686018427387904 < handN 1 ∧ handN 1 < 4611686018427387904) (ha : 0 ≤ a ∧ a < actions) (h : ¬ handN 1 < 0 ∧ 0 < handN 0) : Cg true (d + 1) m_PJ_step [.ref 2, .int (iI a)] (MC s0 s1 handN handD gT gF alE actions alM fiF fiN fiD epN epD goH goN goD plS plP plM plA plBN plBD plLN plLD plR veW veF veP vsF vsN vsD juM juP juTN juTD juO scN scD noF noN noD neF neN neD arP arB arM arU arF arR arL arT arA arS leN leD grN grD arH arLU arGU shN shD stF stN stD rest) (.inr (MC s0 s1 handN handD gT gF alE actions alM fiF fiN fiD epN epD goH goN goD plS plP plM plA plBN plBD plLN plLD plR veW veF veP vsF vsN vsD juM juP juTN juTD juO scN scD noF noN noD neF neN neD arP arB arM arU arF arR arL arT arA arS leN leD grN grD arH arLU arGU shN shD stF stN stD rest).length) ((MC s0 s1 handN handD gT gF alE actions alM fiF fiN fiD epN epD goH goN goD plS plP plM plA plBN plBD plLN plLD plR veW veF veP vsF vsN vsD juM juP juTN juTD juO scN scD noF noN noD neF neN neD arP arB arM arU arF arR arL arT arA arS leN leD grN grD arH arLU arGU shN shD stF stN stD rest) ++ [.inr (14, [])]) := by
  refine Cg.of (Nat.le_of_ble_eq_true rfl) ?_
  change Rg _ _ _ _ 0 [(0, .ref 2), (1, .int (iI a))] [] _ _ _
  refine Rg.step 1 F_PJ_step_0 rfl (fun _ => rfl) ?_
  refine Rg.step 2 F_PJ_step_1 rfl (fun _ => rfl) ?_
  refine Rg.getf 5 F_PJ_step_2 rfl rF_1_21 gC_2 rfl ?_
  refine Rg.getf 8 F_PJ_step_5 rfl rF_1_105 gC_6 rfl ?_
  refine Rg.call 11 F_PJ_step_8 rfl (one_V rM_1_109 (by decide) (by simp) rfl rfl gC_7 rfl) (Nat.le_of_ble_eq_true rfl) (Cg.any c_list_size) ?_
  refine Rg.call 14 F_PJ_step_11 rfl (one_S (by decide +kernel) rM_1_71 (by decide) (by simp) rfl rfl) (Nat.le_of_ble_eq_true rfl) (Cg.any (c_idx_ok (by omega) (by omega) (by omega))) ?_
  refine Rg.step 15 F_PJ_step_14 rfl (fun _ => rfl) ?_
  refine Rg.getf 18 F_PJ_step_15 rfl rF_1_12 gC_2 rfl ?_
  refine Rg.getf 21 F_PJ_step_18 rfl rF_1_57 gC_3 rfl ?_
  refine Rg.step 22 F_PJ_step_21 rfl (fun _ => rfl) ?_
  refine Rg.lld 23 F_PJ_step_22 rfl gC_4 (by omega) (by decide) ?_
  refine Rg.lcn (n := 0) 24 F_PJ_step_23 rfl rfl ?_
  refine Rg.lclt 42 28 F_PJ_step_24 F_PJ_step_25 rfl rfl (by omega) (by omega) (fun h24 => by omega) (fun _ => ?_)
  refine Rg.step 29 F_PJ_step_28 rfl (fun _ => rfl) ?_
  refine Rg.getf 32 F_PJ_step_29 rfl rF_1_12 gC_2 rfl ?_
  refine Rg.getf 35 F_PJ_step_32 rfl rF_1_57 gC_3 rfl ?_
  refine Rg.step 36 F_PJ_step_35 rfl (fun _ => rfl) ?_
  refine Rg.lld 37 F_PJ_step_36 rfl gC_4 (by omega) (by decide) ?_
  refine Rg.lcn (n := 0) 38 F_PJ_step_37 rfl rfl ?_
  refine Rg.lcgt 50 42 F_PJ_step_38 F_PJ_step_39 rfl rfl (by omega) (by omega) (fun _ => ?_) (fun h38 => by omega)
  refine Rg.step 51 F_PJ_step_50 rfl (fun _ => rfl) ?_
  refine Rg.getf 54 F_PJ_step_51 rfl rF_1_28 gC_2 rfl ?_
  refine Rg.getf 57 F_PJ_step_54 rfl rF_1_160 gC_19 rfl ?_
  refine Rg.bip 59 F_PJ_step_57 rfl rfl ?_
  exact Rg.callT F_PJ_step_59 (one_S (by decide +kernel) rM_1_115 (by decide) (by simp) rfl rfl) (Nat.le_of_ble_eq_true rfl) (c_room_no (by omega) (by omega) (by omega)) gX rfl
theorem c_PJ_clear {d : Nat}   : Cg false (d + 1) m_PJ_clear [.ref 2] (MC s0 s1 handN handD gT gF alE actions alM fiF fiN fiD epN epD goH goN goD plS plP plM plA plBN plBD plLN plLD plR veW veF veP vsF vsN vsD juM juP juTN juTD juO scN scD noF noN noD neF neN neD arP arB arM arU arF arR arL arT arA arS leN leD grN grD arH arLU arGU shN shD stF stN stD rest) (.inl none) (MC s0 s1 handN handD gT gF alE actions alM fiF fiN fiD epN epD goH goN goD 0 0 (fun _ => False) plA plBN plBD plLN plLD plR veW veF veP vsF vsN vsD juM juP juTN juTD juO scN scD noF noN noD neF neN neD arP arB arM arU arF arR arL arT arA arS leN leD grN grD arH arLU arGU shN shD stF stN stD rest) := by
  refine Cg.of (Nat.le_of_ble_eq_true rfl) ?_
  change Rg _ _ _ _ 0 [(0, .ref 2)] [] _ _ _
  refine Rg.step 1 F_PJ_clear_0 rfl (fun _ => rfl) ?_
  refine Rg.getf 4 F_PJ_clear_1 rfl rF_1_28 gC_2 rfl ?_
  refine Rg.call 7 F_PJ_clear_4 rfl (one_V rM_1_172 (by decide) (by simp) rfl rfl gC_19 rfl) (Nat.le_of_ble_eq_true rfl) c_Pl_empty ?_
  exact Rg.retV F_PJ_clear_7 rfl rfl
theorem c_Pl_isIn {d : Nat}  (hp : 0 ≤ p ∧ p < 24) : Cg true d m_Plan_isInRow [.ref 19, .int (iI p)] (MC s0 s1 handN handD gT gF alE actions alM fiF fiN fiD epN epD goH goN goD plS plP plM plA plBN plBD plLN plLD plR veW veF veP vsF vsN vsD juM juP juTN juTD juO scN scD noF noN noD neF neN neD arP arB arM arU arF arR arL arT arA arS leN leD grN grD arH arLU arGU shN shD stF stN stD rest) (.inl (some (.int (bP (plM p))))) (MC s0 s1 handN handD gT gF alE actions alM fiF fiN fiD epN epD goH goN goD plS plP plM plA plBN plBD plLN plLD plR veW veF veP vsF vsN vsD juM juP juTN juTD juO scN scD noF noN noD neF neN neD arP arB arM arU arF arR arL arT arA arS leN leD grN grD arH arLU arGU shN shD stF stN stD rest) := by
  refine Cg.of (Nat.le_of_ble_eq_true rfl) ?_
  change Rg _ _ _ _ 0 [(0, .ref 19), (1, .int (iI p))] [] _ _ _
  refine Rg.step 1 F_Plan_isInRow_0 rfl (fun _ => rfl) ?_
  refine Rg.getf 4 F_Plan_isInRow_1 rfl rF_10_37 gC_19 rfl ?_
  refine Rg.step 5 F_Plan_isInRow_4 rfl (fun _ => rfl) ?_
  refine Rg.shrK 6 F_Plan_isInRow_5 rfl (by omega) ?_
  refine Rg.step 7 F_Plan_isInRow_6 rfl (fun _ => rfl) ?_
  refine Rg.and1 8 F_Plan_isInRow_7 rfl ?_
  refine Rg.ifeqT 15 11 F_Plan_isInRow_8 rfl rfl (by omega) (fun h8 => ?_) (fun h8 => ?_)
  · refine Rg.step 16 F_Plan_isInRow_15 rfl (fun _ => rfl) ?_
    exact Rg.ret0 F_Plan_isInRow_16 rfl h8 rfl
  · refine Rg.step 12 F_Plan_isInRow_11 rfl (fun _ => rfl) ?_
    refine Rg.step 16 F_Plan_isInRow_12 rfl (fun _ => rfl) ?_
    exact Rg.ret1 F_Plan_isInRow_16 rfl h8 rfl
theorem c_PJ_push {d : Nat}  (wS : 0 ≤ plS ∧ plS ≤ 12) (wP : 0 ≤ plP ∧ plP < 24) (hp : 0 ≤ p ∧ p < 2 * plS) (h1 : ¬ plM p) (h2 : ¬ p % 2 = 0 → plM (p - 1)) : Cg false (d + 2) m_PJ_push [.ref 2, .int (iI p)] (MC s0 s1 handN handD gT gF alE actions alM fiF fiN fiD epN epD goH goN goD plS plP plM plA plBN plBD plLN plLD plR veW veF veP vsF vsN vsD juM juP juTN juTD juO scN scD noF noN noD neF neN neD arP arB arM arU arF arR arL arT arA arS leN leD grN grD arH arLU arGU shN shD stF stN stD rest) (.inl none) (MC s0 s1 handN handD gT gF alE actions alM fiF fiN fiD epN epD goH goN goD plS (plP + 1) (fun i => plM i ∨ i = p) plA plBN plBD plLN plLD (up1 plR plP p) veW veF veP vsF vsN vsD juM juP juTN juTD juO scN scD noF noN noD neF neN neD arP arB arM arU arF arR arL arT arA arS leN leD grN grD arH arLU arGU shN shD stF stN stD rest) := by
  refine Cg.of (Nat.le_of_ble_eq_true rfl) ?_
  change Rg _ _ _ _ 0 [(0, .ref 2), (1, .int (iI p))] [] _ _ _
  refine Rg.step 1 F_PJ_push_0 rfl (fun _ => rfl) ?_
  refine Rg.step 2 F_PJ_push_1 rfl (fun _ => rfl) ?_
  refine Rg.step 3 F_PJ_push_2 rfl (fun _ => rfl) ?_
  refine Rg.getf 6 F_PJ_push_3 rfl rF_1_28 gC_2 rfl ?_
  refine Rg.getf 9 F_PJ_push_6 rfl rF_1_160 gC_19 rfl ?_
  refine Rg.mulI 10 F_PJ_push_9 rfl ?_
  refine Rg.call 13 F_PJ_push_10 rfl (one_S (by decide +kernel) rM_1_71 (by decide) (by simp) rfl rfl) (Nat.le_of_ble_eq_true rfl) (Cg.any (c_idx_ok (by omega) (by omega) (by omega))) ?_
  refine Rg.step 14 F_PJ_push_13 rfl (fun _ => rfl) ?_
  refine Rg.getf 17 F_PJ_push_14 rfl rF_1_28 gC_2 rfl ?_
  refine Rg.step 18 F_PJ_push_17 rfl (fun _ => rfl) ?_
  refine Rg.call 21 F_PJ_push_18 rfl (one_V rM_1_189 (by decide) (by simp) rfl rfl gC_19 rfl) (Nat.le_of_ble_eq_true rfl) (Cg.any (c_Pl_isIn (by omega))) ?_
  refine Rg.ifneP 44 24 F_PJ_push_21 rfl rfl (fun h21 => absurd h21 h1) (fun _ => ?_)
  refine Rg.step 25 F_PJ_push_24 rfl (fun _ => rfl) ?_
  refine Rg.call 28 F_PJ_push_25 rfl (one_S (by decide +kernel) rM_1_193 (by decide) (by simp) rfl rfl) (Nat.le_of_ble_eq_true rfl) (Cg.any (c_PJ_isEnd (by omega))) ?_
  refine Rg.ifeqP 52 31 F_PJ_push_28 rfl rfl (fun h28 => ?_) (fun h28 => ?_)
  · refine Rg.step 53 F_PJ_push_52 rfl (fun _ => rfl) ?_
    refine Rg.getf 56 F_PJ_push_53 rfl rF_1_28 gC_2 rfl ?_
    refine Rg.step 57 F_PJ_push_56 rfl (fun _ => rfl) ?_
    refine Rg.call 60 F_PJ_push_57 rfl (one_V rM_1_199 (by decide) (by simp) rfl rfl gC_19 rfl) (Nat.le_of_ble_eq_true rfl) (c_Pl_addRow (by omega) (by omega)) ?_
    exact Rg.retV F_PJ_push_60 rfl rfl
  · refine Rg.step 32 F_PJ_push_31 rfl (fun _ => rfl) ?_
    refine Rg.getf 35 F_PJ_push_32 rfl rF_1_28 gC_2 rfl ?_
    refine Rg.step 36 F_PJ_push_35 rfl (fun _ => rfl) ?_
    refine Rg.step 37 F_PJ_push_36 rfl (fun _ => rfl) ?_
    refine Rg.subI 38 F_PJ_push_37 rfl ?_
    refine Rg.call 41 F_PJ_push_38 rfl (one_V rM_1_189 (by decide) (by simp) rfl rfl gC_19 rfl) (Nat.le_of_ble_eq_true rfl) (Cg.any (c_Pl_isIn (by omega))) ?_
    refine Rg.ifneP 52 44 F_PJ_push_41 rfl rfl (fun _ => ?_) (fun h41 => absurd (h2 h28) h41)
    refine Rg.step 53 F_PJ_push_52 rfl (fun _ => rfl) ?_
    refine Rg.getf 56 F_PJ_push_53 rfl rF_1_28 gC_2 rfl ?_
    refine Rg.step 57 F_PJ_push_56 rfl (fun _ => rfl) ?_
    refine Rg.call 60 F_PJ_push_57 rfl (one_V rM_1_199 (by decide) (by simp) rfl rfl gC_19 rfl) (Nat.le_of_ble_eq_true rfl) (c_Pl_addRow (by omega) (by omega)) ?_
    exact Rg.retV F_PJ_push_60 rfl rfl
theorem c_PJ_push1 {d : Nat} (wS : 0 ≤ plS ∧ plS ≤ 12) (b_p : -2147483648 ≤ p ∧ p < 2147483648) (hp : ¬ (0 ≤ p ∧ p < 2 * plS)) : Cg true (d + 2) m_PJ_push [.ref 2, .int (iI p)] (MC s0 s1 handN handD gT gF alE actions alM fiF fiN fiD epN epD goH goN goD plS plP plM plA plBN plBD plLN plLD plR veW veF veP vsF vsN vsD juM juP juTN juTD juO scN scD noF noN noD neF neN neD arP arB arM arU arF arR arL arT arA arS leN leD grN grD arH arLU arGU shN shD stF stN stD rest) (.inr (MC s0 s1 handN handD gT gF alE actions alM fiF fiN fiD epN epD goH goN goD plS plP plM plA plBN plBD plLN plLD plR veW veF veP vsF vsN vsD juM juP juTN juTD juO scN scD noF noN noD neF neN neD arP arB arM arU arF arR arL arT arA arS leN leD grN grD arH arLU arGU shN shD stF stN stD rest).length) ((MC s0 s1 handN handD gT gF alE actions alM fiF fiN fiD epN epD goH goN goD plS plP plM plA plBN plBD plLN plLD plR veW veF veP vsF vsN vsD juM juP juTN juTD juO scN scD noF noN noD neF neN neD arP arB arM arU arF arR arL arT arA arS leN leD grN grD arH arLU arGU shN shD stF stN stD rest) ++ [.inr (13, [])]) := by
  refine Cg.of (Nat.le_of_ble_eq_true rfl) ?_
  change Rg _ _ _ _ 0 [(0, .ref 2), (1, .int (iI p))] [] _ _ _
  refine Rg.step 1 F_PJ_push_0 rfl (fun _ => rfl) ?_
  refine Rg.step 2 F_PJ_push_1 rfl (fun _ => rfl) ?_
  refine Rg.step 3 F_PJ_push_2 rfl (fun _ => rfl) ?_
  refine Rg.getf 6 F_PJ_push_3 rfl rF_1_28 gC_2 rfl ?_
  refine Rg.getf 9 F_PJ_push_6 rfl rF_1_160 gC_19 rfl ?_
  refine Rg.mulI 10 F_PJ_push_9 rfl ?_
  exact Rg.callT F_PJ_push_10 (one_S (by decide +kernel) rM_1_71 (by decide) (by simp) rfl rfl) (Nat.le_of_ble_eq_true rfl) (c_idx_no (by omega) (by omega) (by omega)) gX rfl
theorem c_PJ_push2 {d : Nat} (wS : 0 ≤ plS ∧ plS ≤ 12) (hp : 0 ≤ p ∧ p < 2 * plS) (h : plM p ∨ (¬ p % 2 = 0 ∧ ¬ plM (p - 1))) : Cg true (d + 2) m_PJ_push [.ref 2, .int (iI p)] (MC s0 s1 handN handD gT gF alE actions alM fiF fiN fiD epN epD goH goN goD plS plP plM plA plBN plBD plLN plLD plR veW veF veP vsF vsN vsD juM juP juTN juTD juO scN scD noF noN noD neF neN neD arP arB arM arU arF arR arL arT arA arS leN leD grN grD arH arLU arGU shN shD stF stN stD rest) (.inr (MC s0 s1 handN handD gT gF alE actions alM fiF fiN fiD epN epD goH goN goD plS plP plM plA plBN plBD plLN plLD plR veW veF veP vsF vsN vsD juM juP juTN juTD juO scN scD noF noN noD neF neN neD arP arB arM arU arF arR arL arT arA arS leN leD grN grD arH arLU arGU shN shD stF stN stD rest).length) ((MC s0 s1 handN handD gT gF alE actions alM fiF fiN fiD epN epD goH goN goD plS plP plM plA plBN plBD plLN plLD plR veW veF veP vsF vsN vsD juM juP juTN juTD juO scN scD noF noN noD neF neN neD arP arB arM arU arF arR arL arT arA arS leN leD grN grD arH arLU arGU shN shD stF stN stD rest) ++ [.inr (14, [])]) := by
  refine Cg.of (Nat.le_of_ble_eq_true rfl) ?_
  change Rg _ _ _ _ 0 [(0, .ref 2), (1, .int (iI p))] [] _ _ _
  refine Rg.step 1 F_PJ_push_0 rfl (fun _ => rfl) ?_
  refine Rg.step 2 F_PJ_push_1 rfl (fun _ => rfl) ?_
  refine Rg.step 3 F_PJ_push_2 rfl (fun _ => rfl) ?_
  refine Rg.getf 6 F_PJ_push_3 rfl rF_1_28 gC_2 rfl ?_
  refine Rg.getf 9 F_PJ_push_6 rfl rF_1_160 gC_19 rfl ?_
  refine Rg.mulI 10 F_PJ_push_9 rfl ?_
  refine Rg.call 13 F_PJ_push_10 rfl (one_S (by decide +kernel) rM_1_71 (by decide) (by simp) rfl rfl) (Nat.le_of_ble_eq_true rfl) (Cg.any (c_idx_ok (by omega) (by omega) (by omega))) ?_
  refine Rg.step 14 F_PJ_push_13 rfl (fun _ => rfl) ?_
  refine Rg.getf 17 F_PJ_push_14 rfl rF_1_28 gC_2 rfl ?_
  refine Rg.step 18 F_PJ_push_17 rfl (fun _ => rfl) ?_
  refine Rg.call 21 F_PJ_push_18 rfl (one_V rM_1_189 (by decide) (by simp) rfl rfl gC_19 rfl) (Nat.le_of_ble_eq_true rfl) (Cg.any (c_Pl_isIn (by omega))) ?_
  refine Rg.ifneP 44 24 F_PJ_push_21 rfl rfl (fun h21 => ?_) (fun h21 => ?_)
  · exact Rg.thr F_PJ_push_44 F_PJ_push_47 F_PJ_push_48 F_PJ_push_51 rC_1_196 rfl (by decide) rE_1_198 rfl rfl (Nat.le_of_ble_eq_true rfl)
  · refine Rg.step 25 F_PJ_push_24 rfl (fun _ => rfl) ?_
    refine Rg.call 28 F_PJ_push_25 rfl (one_S (by decide +kernel) rM_1_193 (by decide) (by simp) rfl rfl) (Nat.le_of_ble_eq_true rfl) (Cg.any (c_PJ_isEnd (by omega))) ?_
    refine Rg.ifeqP 52 31 F_PJ_push_28 rfl rfl (fun h28 => False.elim (h.elim h21 (fun z => z.1 (Classical.byContradiction h28)))) (fun _ => ?_)
    refine Rg.step 32 F_PJ_push_31 rfl (fun _ => rfl) ?_
    refine Rg.getf 35 F_PJ_push_32 rfl rF_1_28 gC_2 rfl ?_
    refine Rg.step 36 F_PJ_push_35 rfl (fun _ => rfl) ?_
    refine Rg.step 37 F_PJ_push_36 rfl (fun _ => rfl) ?_
    refine Rg.subI 38 F_PJ_push_37 rfl ?_
    refine Rg.call 41 F_PJ_push_38 rfl (one_V rM_1_189 (by decide) (by simp) rfl rfl gC_19 rfl) (Nat.le_of_ble_eq_true rfl) (Cg.any (c_Pl_isIn (by omega))) ?_
    refine Rg.ifneP 52 44 F_PJ_push_41 rfl rfl (fun h41 => False.elim (h.elim h21 (fun z => z.2 h41))) (fun _ => ?_)
    exact Rg.thr F_PJ_push_44 F_PJ_push_47 F_PJ_push_48 F_PJ_push_51 rC_1_196 rfl (by decide) rE_1_198 rfl rfl (Nat.le_of_ble_eq_true rfl)
theorem c_Pl_drop {d : Nat}  (wP : 0 < plP ∧ plP ≤ 24) (hr : 0 ≤ plR (plP - 1) ∧ plR (plP - 1) < 24) : Cg false d m_Plan_dropLastPoint [.ref 19] (MC s0 s1 handN handD gT gF alE actions alM fiF fiN fiD epN epD goH goN goD plS plP plM plA plBN plBD plLN plLD plR veW veF veP vsF vsN vsD juM juP juTN juTD juO scN scD noF noN noD neF neN neD arP arB arM arU arF arR arL arT arA arS leN leD grN grD arH arLU arGU shN shD stF stN stD rest) (.inl (some (.int (iI (plR (plP - 1)))))) (MC s0 s1 handN handD gT gF alE actions alM fiF fiN fiD epN epD goH goN goD plS (plP - 1) (fun i => plM i ∧ ¬ i = plR (plP - 1)) plA plBN plBD plLN plLD plR veW veF veP vsF vsN vsD juM juP juTN juTD juO scN scD noF noN noD neF neN neD arP arB arM arU arF arR arL arT arA arS leN leD grN grD arH arLU arGU shN shD stF stN stD rest) := by
  refine Cg.of (Nat.le_of_ble_eq_true rfl) ?_
  change Rg _ _ _ _ 0 [(0, .ref 19)] [] _ _ _
  refine Rg.step 1 F_Plan_dropLastPoint_0 rfl (fun _ => rfl) ?_
  refine Rg.step 2 F_Plan_dropLastPoint_1 rfl (fun _ => rfl) ?_
  refine Rg.getf 5 F_Plan_dropLastPoint_2 rfl rF_10_34 gC_19 rfl ?_
  refine Rg.step 6 F_Plan_dropLastPoint_5 rfl (fun _ => rfl) ?_
  refine Rg.subI 7 F_Plan_dropLastPoint_6 rfl ?_
  refine Rg.put 10 F_Plan_dropLastPoint_7 rfl rF_10_34 gC_19 (by decide) (Nat.le_of_ble_eq_true rfl) (Or.inl rfl) rfl sO_plP ?_
  refine Rg.step 11 F_Plan_dropLastPoint_10 rfl (fun _ => rfl) ?_
  refine Rg.step 12 F_Plan_dropLastPoint_11 rfl (fun _ => rfl) ?_
  refine Rg.getf 15 F_Plan_dropLastPoint_12 rfl rF_10_37 gC_19 rfl ?_
  refine Rg.step 16 F_Plan_dropLastPoint_15 rfl (fun _ => rfl) ?_
  refine Rg.step 17 F_Plan_dropLastPoint_16 rfl (fun _ => rfl) ?_
  refine Rg.getf 20 F_Plan_dropLastPoint_17 rfl rF_10_27 gC_19 rfl ?_
  refine Rg.step 21 F_Plan_dropLastPoint_20 rfl (fun _ => rfl) ?_
  refine Rg.getf 24 F_Plan_dropLastPoint_21 rfl rF_10_34 gC_19 rfl ?_
  refine Rg.ild 25 F_Plan_dropLastPoint_24 rfl gC_27 (by omega) (by decide) ?_
  refine Rg.shlK 26 F_Plan_dropLastPoint_25 rfl (by omega) ?_
  refine Rg.step 27 F_Plan_dropLastPoint_26 rfl (fun _ => rfl) ?_
  refine Rg.notK 28 F_Plan_dropLastPoint_27 rfl ?_
  refine Rg.andN 29 F_Plan_dropLastPoint_28 rfl ?_
  refine Rg.put 32 F_Plan_dropLastPoint_29 rfl rF_10_37 gC_19 (by decide) (Nat.le_of_ble_eq_true rfl) (Or.inl rfl) rfl sO_plM ?_
  refine Rg.step 33 F_Plan_dropLastPoint_32 rfl (fun _ => rfl) ?_
  refine Rg.getf 36 F_Plan_dropLastPoint_33 rfl rF_10_27 gC_19 rfl ?_
  refine Rg.step 37 F_Plan_dropLastPoint_36 rfl (fun _ => rfl) ?_
  refine Rg.getf 40 F_Plan_dropLastPoint_37 rfl rF_10_34 gC_19 rfl ?_
  refine Rg.ild 41 F_Plan_dropLastPoint_40 rfl gC_27 (by omega) (by decide) ?_
  exact Rg.retI F_Plan_dropLastPoint_41 rfl rfl rfl
theorem c_PJ_pop {d : Nat}  (wP : 0 < plP ∧ plP ≤ 24) (hr : 0 ≤ plR (plP - 1) ∧ plR (plP - 1) < 24) : Cg false (d + 1) m_PJ_pop [.ref 2] (MC s0 s1 handN handD gT gF alE actions alM fiF fiN fiD epN epD goH goN goD plS plP plM plA plBN plBD plLN plLD plR veW veF veP vsF vsN vsD juM juP juTN juTD juO scN scD noF noN noD neF neN neD arP arB arM arU arF arR arL arT arA arS leN leD grN grD arH arLU arGU shN shD stF stN stD rest) (.inl (some (.int (iI (plR (plP - 1)))))) (MC s0 s1 handN handD gT gF alE actions alM fiF fiN fiD epN epD goH goN goD plS (plP - 1) (fun i => plM i ∧ ¬ i = plR (plP - 1)) plA plBN plBD plLN plLD plR veW veF veP vsF vsN vsD juM juP juTN juTD juO scN scD noF noN noD neF neN neD arP arB arM arU arF arR arL arT arA arS leN leD grN grD arH arLU arGU shN shD stF stN stD rest) := by
  refine Cg.of (Nat.le_of_ble_eq_true rfl) ?_
  change Rg _ _ _ _ 0 [(0, .ref 2)] [] _ _ _
  refine Rg.step 1 F_PJ_pop_0 rfl (fun _ => rfl) ?_
  refine Rg.getf 4 F_PJ_pop_1 rfl rF_1_28 gC_2 rfl ?_
  refine Rg.getf 7 F_PJ_pop_4 rfl rF_1_202 gC_19 rfl ?_
  refine Rg.ifneI 14 10 F_PJ_pop_7 rfl rfl (by omega) (fun _ => ?_) (fun h7 => by omega)
  refine Rg.step 15 F_PJ_pop_14 rfl (fun _ => rfl) ?_
  refine Rg.getf 18 F_PJ_pop_15 rfl rF_1_28 gC_2 rfl ?_
  refine Rg.call 21 F_PJ_pop_18 rfl (one_V rM_1_205 (by decide) (by simp) rfl rfl gC_19 rfl) (Nat.le_of_ble_eq_true rfl) (c_Pl_drop wP hr) ?_
  exact Rg.retI F_PJ_pop_21 rfl rfl rfl
theorem c_PJ_pop0 {d : Nat}  (wP : plP = 0) : Cg true (d + 1) m_PJ_pop [.ref 2] (MC s0 s1 handN handD gT gF alE actions alM fiF fiN fiD epN epD goH goN goD plS plP plM plA plBN plBD plLN plLD plR veW veF veP vsF vsN vsD juM juP juTN juTD juO scN scD noF noN noD neF neN neD arP arB arM arU arF arR arL arT arA arS leN leD grN grD arH arLU arGU shN shD stF stN stD rest) (.inl (some (.int (iI (-1))))) (MC s0 s1 handN handD gT gF alE actions alM fiF fiN fiD epN epD goH goN goD plS plP plM plA plBN plBD plLN plLD plR veW veF veP vsF vsN vsD juM juP juTN juTD juO scN scD noF noN noD neF neN neD arP arB arM arU arF arR arL arT arA arS leN leD grN grD arH arLU arGU shN shD stF stN stD rest) := by
  refine Cg.of (Nat.le_of_ble_eq_true rfl) ?_
  change Rg _ _ _ _ 0 [(0, .ref 2)] [] _ _ _
  refine Rg.step 1 F_PJ_pop_0 rfl (fun _ => rfl) ?_
  refine Rg.getf 4 F_PJ_pop_1 rfl rF_1_28 gC_2 rfl ?_
  refine Rg.getf 7 F_PJ_pop_4 rfl rF_1_202 gC_19 rfl ?_
  refine Rg.ifneI 14 10 F_PJ_pop_7 rfl rfl (by omega) (fun h7 => by omega) (fun _ => ?_)
  refine Rg.step 11 F_PJ_pop_10 rfl (fun _ => rfl) ?_
  refine Rg.step 21 F_PJ_pop_11 rfl (fun _ => rfl) ?_
  exact Rg.retI F_PJ_pop_21 rfl rfl rfl
theorem c_PJ_at {d : Nat}  (wP : 0 ≤ plP ∧ plP ≤ 24) (h : 0 ≤ k ∧ k < plP) : Cg true d m_PJ_at [.ref 2, .int (iI k)] (MC s0 s1 handN handD gT gF alE actions alM fiF fiN fiD epN epD goH goN goD plS plP plM plA plBN plBD plLN plLD plR veW veF veP vsF vsN vsD juM juP juTN juTD juO scN scD noF noN noD neF neN neD arP arB arM arU arF arR arL arT arA arS leN leD grN grD arH arLU arGU shN shD stF stN stD rest) (.inl (some (.int (iI (plR k))))) (MC s0 s1 handN handD gT gF alE actions alM fiF fiN fiD epN epD goH goN goD plS plP plM plA plBN plBD plLN plLD plR veW veF veP vsF vsN vsD juM juP juTN juTD juO scN scD noF noN noD neF neN neD arP arB arM arU arF arR arL arT arA arS leN leD grN grD arH arLU arGU shN shD stF stN stD rest) := by
  refine Cg.of (Nat.le_of_ble_eq_true rfl) ?_
  change Rg _ _ _ _ 0 [(0, .ref 2), (1, .int (iI k))] [] _ _ _
  refine Rg.step 1 F_PJ_at_0 rfl (fun _ => rfl) ?_
  refine Rg.ifltI 15 4 F_PJ_at_1 rfl rfl (by omega) (fun h1 => by omega) (fun _ => ?_)
  refine Rg.step 5 F_PJ_at_4 rfl (fun _ => rfl) ?_
  refine Rg.step 6 F_PJ_at_5 rfl (fun _ => rfl) ?_
  refine Rg.getf 9 F_PJ_at_6 rfl rF_1_28 gC_2 rfl ?_
  refine Rg.getf 12 F_PJ_at_9 rfl rF_1_202 gC_19 rfl ?_
  refine Rg.icltI 19 15 F_PJ_at_12 rfl rfl (by omega) (by omega) (fun _ => ?_) (fun h12 => by omega)
  refine Rg.step 20 F_PJ_at_19 rfl (fun _ => rfl) ?_
  refine Rg.getf 23 F_PJ_at_20 rfl rF_1_28 gC_2 rfl ?_
  refine Rg.getf 26 F_PJ_at_23 rfl rF_1_241 gC_19 rfl ?_
  refine Rg.step 27 F_PJ_at_26 rfl (fun _ => rfl) ?_
  refine Rg.ild 28 F_PJ_at_27 rfl gC_27 (by omega) (by decide) ?_
  exact Rg.retI F_PJ_at_28 rfl rfl rfl
theorem c_PJ_at0 {d : Nat}  (wP : 0 ≤ plP ∧ plP ≤ 24) (b_k : -2147483648 ≤ k ∧ k < 2147483648) (h : ¬ (0 ≤ k ∧ k < plP)) : Cg true d m_PJ_at [.ref 2, .int (iI k)] (MC s0 s1 handN handD gT gF alE actions alM fiF fiN fiD epN epD goH goN goD plS plP plM plA plBN plBD plLN plLD plR veW veF veP vsF vsN vsD juM juP juTN juTD juO scN scD noF noN noD neF neN neD arP arB arM arU arF arR arL arT arA arS leN leD grN grD arH arLU arGU shN shD stF stN stD rest) (.inl (some (.int (iI (-1))))) (MC s0 s1 handN handD gT gF alE actions alM fiF fiN fiD epN epD goH goN goD plS plP plM plA plBN plBD plLN plLD plR veW veF veP vsF vsN vsD juM juP juTN juTD juO scN scD noF noN noD neF neN neD arP arB arM arU arF arR arL arT arA arS leN leD grN grD arH arLU arGU shN shD stF stN stD rest) := by
  refine Cg.of (Nat.le_of_ble_eq_true rfl) ?_
  change Rg _ _ _ _ 0 [(0, .ref 2), (1, .int (iI k))] [] _ _ _
  refine Rg.step 1 F_PJ_at_0 rfl (fun _ => rfl) ?_
  refine Rg.ifltI 15 4 F_PJ_at_1 rfl rfl (by omega) (fun h1 => ?_) (fun h1 => ?_)
  · refine Rg.step 16 F_PJ_at_15 rfl (fun _ => rfl) ?_
    refine Rg.step 28 F_PJ_at_16 rfl (fun _ => rfl) ?_
    exact Rg.retI F_PJ_at_28 rfl rfl rfl
  · refine Rg.step 5 F_PJ_at_4 rfl (fun _ => rfl) ?_
    refine Rg.step 6 F_PJ_at_5 rfl (fun _ => rfl) ?_
    refine Rg.getf 9 F_PJ_at_6 rfl rF_1_28 gC_2 rfl ?_
    refine Rg.getf 12 F_PJ_at_9 rfl rF_1_202 gC_19 rfl ?_
    refine Rg.icltI 19 15 F_PJ_at_12 rfl rfl (by omega) (by omega) (fun h12 => by omega) (fun _ => ?_)
    refine Rg.step 16 F_PJ_at_15 rfl (fun _ => rfl) ?_
    refine Rg.step 28 F_PJ_at_16 rfl (fun _ => rfl) ?_
    exact Rg.retI F_PJ_at_28 rfl rfl rfl
theorem c_PJ_count_0 {d : Nat}   : Cg true (d + 1) m_PJ_count [.ref 2, .int (iI 0)] (MC s0 s1 handN handD gT gF alE actions alM fiF fiN fiD epN epD goH goN goD plS plP plM plA plBN plBD plLN plLD plR veW veF veP vsF vsN vsD juM juP juTN juTD juO scN scD noF noN noD neF neN neD arP arB arM arU arF arR arL arT arA arS leN leD grN grD arH arLU arGU shN shD stF stN stD rest) (.inl (some (.int (iI veF)))) (MC s0 s1 handN handD gT gF alE actions alM fiF fiN fiD epN epD goH goN goD plS plP plM plA plBN plBD plLN plLD plR veW veF veP vsF vsN vsD juM juP juTN juTD juO scN scD noF noN noD neF neN neD arP arB arM arU arF arR arL arT arA arS leN leD grN grD arH arLU arGU shN shD stF stN stD rest) := by
  refine Cg.of (Nat.le_of_ble_eq_true rfl) ?_
  change Rg _ _ _ _ 0 [(0, .ref 2), (1, .int (iI 0))] [] _ _ _
  refine Rg.step 1 F_PJ_count_0 rfl (fun _ => rfl) ?_
  refine Rg.step 36 F_PJ_count_1 rfl (fun _ => rfl) ?_
  refine Rg.step 37 F_PJ_count_36 rfl (fun _ => rfl) ?_
  refine Rg.getf 40 F_PJ_count_37 rfl rF_1_35 gC_2 rfl ?_
  refine Rg.getf 43 F_PJ_count_40 rfl rF_1_229 gC_28 rfl ?_
  exact Rg.retI F_PJ_count_43 rfl rfl rfl
theorem c_PJ_count_1 {d : Nat}   : Cg true (d + 1) m_PJ_count [.ref 2, .int (iI 1)] (MC s0 s1 handN handD gT gF alE actions alM fiF fiN fiD epN epD goH goN goD plS plP plM plA plBN plBD plLN plLD plR veW veF veP vsF vsN vsD juM juP juTN juTD juO scN scD noF noN noD neF neN neD arP arB arM arU arF arR arL arT arA arS leN leD grN grD arH arLU arGU shN shD stF stN stD rest) (.inl (some (.int (iI veP)))) (MC s0 s1 handN handD gT gF alE actions alM fiF fiN fiD epN epD goH goN goD plS plP plM plA plBN plBD plLN plLD plR veW veF veP vsF vsN vsD juM juP juTN juTD juO scN scD noF noN noD neF neN neD arP arB arM arU arF arR arL arT arA arS leN leD grN grD arH arLU arGU shN shD stF stN stD rest) := by
  refine Cg.of (Nat.le_of_ble_eq_true rfl) ?_
  change Rg _ _ _ _ 0 [(0, .ref 2), (1, .int (iI 1))] [] _ _ _
  refine Rg.step 1 F_PJ_count_0 rfl (fun _ => rfl) ?_
  refine Rg.step 44 F_PJ_count_1 rfl (fun _ => rfl) ?_
  refine Rg.step 45 F_PJ_count_44 rfl (fun _ => rfl) ?_
  refine Rg.getf 48 F_PJ_count_45 rfl rF_1_35 gC_2 rfl ?_
  refine Rg.getf 51 F_PJ_count_48 rfl rF_1_232 gC_28 rfl ?_
  exact Rg.retI F_PJ_count_51 rfl rfl rfl
theorem c_PJ_count_2 {d : Nat}   : Cg true (d + 1) m_PJ_count [.ref 2, .int (iI 2)] (MC s0 s1 handN handD gT gF alE actions alM fiF fiN fiD epN epD goH goN goD plS plP plM plA plBN plBD plLN plLD plR veW veF veP vsF vsN vsD juM juP juTN juTD juO scN scD noF noN noD neF neN neD arP arB arM arU arF arR arL arT arA arS leN leD grN grD arH arLU arGU shN shD stF stN stD rest) (.inl (some (.int (iI actions)))) (MC s0 s1 handN handD gT gF alE actions alM fiF fiN fiD epN epD goH goN goD plS plP plM plA plBN plBD plLN plLD plR veW veF veP vsF vsN vsD juM juP juTN juTD juO scN scD noF noN noD neF neN neD arP arB arM arU arF arR arL arT arA arS leN leD grN grD arH arLU arGU shN shD stF stN stD rest) := by
  refine Cg.of (Nat.le_of_ble_eq_true rfl) ?_
  change Rg _ _ _ _ 0 [(0, .ref 2), (1, .int (iI 2))] [] _ _ _
  refine Rg.step 1 F_PJ_count_0 rfl (fun _ => rfl) ?_
  refine Rg.step 52 F_PJ_count_1 rfl (fun _ => rfl) ?_
  refine Rg.step 53 F_PJ_count_52 rfl (fun _ => rfl) ?_
  refine Rg.getf 56 F_PJ_count_53 rfl rF_1_21 gC_2 rfl ?_
  refine Rg.getf 59 F_PJ_count_56 rfl rF_1_105 gC_6 rfl ?_
  refine Rg.call 62 F_PJ_count_59 rfl (one_V rM_1_109 (by decide) (by simp) rfl rfl gC_7 rfl) (Nat.le_of_ble_eq_true rfl) (Cg.any c_list_size) ?_
  exact Rg.retI F_PJ_count_62 rfl rfl rfl
theorem c_PJ_count_3 {d : Nat}   : Cg true (d + 1) m_PJ_count [.ref 2, .int (iI 3)] (MC s0 s1 handN handD gT gF alE actions alM fiF fiN fiD epN epD goH goN goD plS plP plM plA plBN plBD plLN plLD plR veW veF veP vsF vsN vsD juM juP juTN juTD juO scN scD noF noN noD neF neN neD arP arB arM arU arF arR arL arT arA arS leN leD grN grD arH arLU arGU shN shD stF stN stD rest) (.inl (some (.int (iI plS)))) (MC s0 s1 handN handD gT gF alE actions alM fiF fiN fiD epN epD goH goN goD plS plP plM plA plBN plBD plLN plLD plR veW veF veP vsF vsN vsD juM juP juTN juTD juO scN scD noF noN noD neF neN neD arP arB arM arU arF arR arL arT arA arS leN leD grN grD arH arLU arGU shN shD stF stN stD rest) := by
  refine Cg.of (Nat.le_of_ble_eq_true rfl) ?_
  change Rg _ _ _ _ 0 [(0, .ref 2), (1, .int (iI 3))] [] _ _ _
  refine Rg.step 1 F_PJ_count_0 rfl (fun _ => rfl) ?_
  refine Rg.step 63 F_PJ_count_1 rfl (fun _ => rfl) ?_
  refine Rg.step 64 F_PJ_count_63 rfl (fun _ => rfl) ?_
  refine Rg.getf 67 F_PJ_count_64 rfl rF_1_28 gC_2 rfl ?_
  refine Rg.getf 70 F_PJ_count_67 rfl rF_1_160 gC_19 rfl ?_
  exact Rg.retI F_PJ_count_70 rfl rfl rfl
theorem c_PJ_count_4 {d : Nat}   : Cg true (d + 1) m_PJ_count [.ref 2, .int (iI 4)] (MC s0 s1 handN handD gT gF alE actions alM fiF fiN fiD epN epD goH goN goD plS plP plM plA plBN plBD plLN plLD plR veW veF veP vsF vsN vsD juM juP juTN juTD juO scN scD noF noN noD neF neN neD arP arB arM arU arF arR arL arT arA arS leN leD grN grD arH arLU arGU shN shD stF stN stD rest) (.inl (some (.int (iI plP)))) (MC s0 s1 handN handD gT gF alE actions alM fiF fiN fiD epN epD goH goN goD plS plP plM plA plBN plBD plLN plLD plR veW veF veP vsF vsN vsD juM juP juTN juTD juO scN scD noF noN noD neF neN neD arP arB arM arU arF arR arL arT arA arS leN leD grN grD arH arLU arGU shN shD stF stN stD rest) := by
  refine Cg.of (Nat.le_of_ble_eq_true rfl) ?_
  change Rg _ _ _ _ 0 [(0, .ref 2), (1, .int (iI 4))] [] _ _ _
  refine Rg.step 1 F_PJ_count_0 rfl (fun _ => rfl) ?_
  refine Rg.step 71 F_PJ_count_1 rfl (fun _ => rfl) ?_
  refine Rg.step 72 F_PJ_count_71 rfl (fun _ => rfl) ?_
  refine Rg.getf 75 F_PJ_count_72 rfl rF_1_28 gC_2 rfl ?_
  refine Rg.getf 78 F_PJ_count_75 rfl rF_1_202 gC_19 rfl ?_
  exact Rg.retI F_PJ_count_78 rfl rfl rfl
theorem c_PJ_count1 {d : Nat} (b_w : -2147483648 ≤ w ∧ w < 2147483648) (h : ¬ (0 ≤ w ∧ w ≤ 4)) : Cg true (d + 1) m_PJ_count [.ref 2, .int (iI w)] (MC s0 s1 handN handD gT gF alE actions alM fiF fiN fiD epN epD goH goN goD plS plP plM plA plBN plBD plLN plLD plR veW veF veP vsF vsN vsD juM juP juTN juTD juO scN scD noF noN noD neF neN neD arP arB arM arU arF arR arL arT arA arS leN leD grN grD arH arLU arGU shN shD stF stN stD rest) (.inr (MC s0 s1 handN handD gT gF alE actions alM fiF fiN fiD epN epD goH goN goD plS plP plM plA plBN plBD plLN plLD plR veW veF veP vsF vsN vsD juM juP juTN juTD juO scN scD noF noN noD neF neN neD arP arB arM arU arF arR arL arT arA arS leN leD grN grD arH arLU arGU shN shD stF stN stD rest).length) ((MC s0 s1 handN handD gT gF alE actions alM fiF fiN fiD epN epD goH goN goD plS plP plM plA plBN plBD plLN plLD plR veW veF veP vsF vsN vsD juM juP juTN juTD juO scN scD noF noN noD neF neN neD arP arB arM arU arF arR arL arT arA arS leN leD grN grD arH arLU arGU shN shD stF stN stD rest) ++ [.inr (13, [])]) := by
  refine Cg.of (Nat.le_of_ble_eq_true rfl) ?_
  change Rg _ _ _ _ 0 [(0, .ref 2), (1, .int (iI w))] [] _ _ _
  refine Rg.step 1 F_PJ_count_0 rfl (fun _ => rfl) ?_
  refine Rg.tswD 79 F_PJ_count_1 rfl (by rw [iI_to b_w]; omega) ?_
  exact Rg.thr F_PJ_count_79 F_PJ_count_82 F_PJ_count_83 F_PJ_count_86 rC_1_235 rfl (by decide) rE_1_237 rfl rfl (Nat.le_of_ble_eq_true rfl)
theorem c_PJ_done {d : Nat}  (wS : 0 ≤ plS ∧ plS ≤ 12) (h : 0 ≤ k ∧ k < plS) : Cg true (d + 1) m_PJ_done [.ref 2, .int (iI k)] (MC s0 s1 handN handD gT gF alE actions alM fiF fiN fiD epN epD goH goN goD plS plP plM plA plBN plBD plLN plLD plR veW veF veP vsF vsN vsD juM juP juTN juTD juO scN scD noF noN noD neF neN neD arP arB arM arU arF arR arL arT arA arS leN leD grN grD arH arLU arGU shN shD stF stN stD rest) (.inl (some (.int (iI (plA k))))) (MC s0 s1 handN handD gT gF alE actions alM fiF fiN fiD epN epD goH goN goD plS plP plM plA plBN plBD plLN plLD plR veW veF veP vsF vsN vsD juM juP juTN juTD juO scN scD noF noN noD neF neN neD arP arB arM arU arF arR arL arT arA arS leN leD grN grD arH arLU arGU shN shD stF stN stD rest) := by
  refine Cg.of (Nat.le_of_ble_eq_true rfl) ?_
  change Rg _ _ _ _ 0 [(0, .ref 2), (1, .int (iI k))] [] _ _ _
  refine Rg.step 1 F_PJ_done_0 rfl (fun _ => rfl) ?_
  refine Rg.step 2 F_PJ_done_1 rfl (fun _ => rfl) ?_
  refine Rg.getf 5 F_PJ_done_2 rfl rF_1_28 gC_2 rfl ?_
  refine Rg.getf 8 F_PJ_done_5 rfl rF_1_160 gC_19 rfl ?_
  refine Rg.call 11 F_PJ_done_8 rfl (one_S (by decide +kernel) rM_1_71 (by decide) (by simp) rfl rfl) (Nat.le_of_ble_eq_true rfl) (Cg.any (c_idx_ok (by omega) (by omega) (by omega))) ?_
  refine Rg.step 12 F_PJ_done_11 rfl (fun _ => rfl) ?_
  refine Rg.getf 15 F_PJ_done_12 rfl rF_1_28 gC_2 rfl ?_
  refine Rg.getf 18 F_PJ_done_15 rfl rF_1_238 gC_19 rfl ?_
  refine Rg.step 19 F_PJ_done_18 rfl (fun _ => rfl) ?_
  refine Rg.ild 20 F_PJ_done_19 rfl gC_20 (by omega) (by decide) ?_
  exact Rg.retI F_PJ_done_20 rfl rfl rfl
theorem c_PJ_done1 {d : Nat} (wS : 0 ≤ plS ∧ plS ≤ 12) (b_k : -2147483648 ≤ k ∧ k < 2147483648) (h : ¬ (0 ≤ k ∧ k < plS)) : Cg true (d + 1) m_PJ_done [.ref 2, .int (iI k)] (MC s0 s1 handN handD gT gF alE actions alM fiF fiN fiD epN epD goH goN goD plS plP plM plA plBN plBD plLN plLD plR veW veF veP vsF vsN vsD juM juP juTN juTD juO scN scD noF noN noD neF neN neD arP arB arM arU arF arR arL arT arA arS leN leD grN grD arH arLU arGU shN shD stF stN stD rest) (.inr (MC s0 s1 handN handD gT gF alE actions alM fiF fiN fiD epN epD goH goN goD plS plP plM plA plBN plBD plLN plLD plR veW veF veP vsF vsN vsD juM juP juTN juTD juO scN scD noF noN noD neF neN neD arP arB arM arU arF arR arL arT arA arS leN leD grN grD arH arLU arGU shN shD stF stN stD rest).length) ((MC s0 s1 handN handD gT gF alE actions alM fiF fiN fiD epN epD goH goN goD plS plP plM plA plBN plBD plLN plLD plR veW veF veP vsF vsN vsD juM juP juTN juTD juO scN scD noF noN noD neF neN neD arP arB arM arU arF arR arL arT arA arS leN leD grN grD arH arLU arGU shN shD stF stN stD rest) ++ [.inr (13, [])]) := by
  refine Cg.of (Nat.le_of_ble_eq_true rfl) ?_
  change Rg _ _ _ _ 0 [(0, .ref 2), (1, .int (iI k))] [] _ _ _
  refine Rg.step 1 F_PJ_done_0 rfl (fun _ => rfl) ?_
  refine Rg.step 2 F_PJ_done_1 rfl (fun _ => rfl) ?_
  refine Rg.getf 5 F_PJ_done_2 rfl rF_1_28 gC_2 rfl ?_
  refine Rg.getf 8 F_PJ_done_5 rfl rF_1_160 gC_19 rfl ?_
  exact Rg.callT F_PJ_done_8 (one_S (by decide +kernel) rM_1_71 (by decide) (by simp) rfl rfl) (Nat.le_of_ble_eq_true rfl) (c_idx_no (by omega) (by omega) (by omega)) gX rfl
theorem c_PJ_late1 {d : Nat}  (hv : veW = 1) : Cg true d m_PJ_latestState [.ref 2] (MC s0 s1 handN handD gT gF alE actions alM fiF fiN fiD epN epD goH goN goD plS plP plM plA plBN plBD plLN plLD plR veW veF veP vsF vsN vsD juM juP juTN juTD juO scN scD noF noN noD neF neN neD arP arB arM arU arF arR arL arT arA arS leN leD grN grD arH arLU arGU shN shD stF stN stD rest) (.inl (some (.ref 29))) (MC s0 s1 handN handD gT gF alE actions alM fiF fiN fiD epN epD goH goN goD plS plP plM plA plBN plBD plLN plLD plR veW veF veP vsF vsN vsD juM juP juTN juTD juO scN scD noF noN noD neF neN neD arP arB arM arU arF arR arL arT arA arS leN leD grN grD arH arLU arGU shN shD stF stN stD rest) := by
  refine Cg.of (Nat.le_of_ble_eq_true rfl) ?_
  change Rg _ _ _ _ 0 [(0, .ref 2)] [] _ _ _
  refine Rg.step 1 F_PJ_latestState_0 rfl (fun _ => rfl) ?_
  refine Rg.getf 4 F_PJ_latestState_1 rfl rF_1_35 gC_2 rfl ?_
  refine Rg.getf 7 F_PJ_latestState_4 rfl rF_1_261 gC_28 rfl ?_
  refine Rg.ifeqI 20 10 F_PJ_latestState_7 rfl rfl (by omega) (fun h7 => by omega) (fun _ => ?_)
  refine Rg.step 11 F_PJ_latestState_10 rfl (fun _ => rfl) ?_
  refine Rg.getf 14 F_PJ_latestState_11 rfl rF_1_35 gC_2 rfl ?_
  refine Rg.getf 17 F_PJ_latestState_14 rfl rF_1_265 gC_28 rfl ?_
  refine Rg.step 27 F_PJ_latestState_17 rfl (fun _ => rfl) ?_
  exact Rg.ret F_PJ_latestState_27 rfl
theorem c_PJ_late0 {d : Nat}  (hv : veW = 0) : Cg true d m_PJ_latestState [.ref 2] (MC s0 s1 handN handD gT gF alE actions alM fiF fiN fiD epN epD goH goN goD plS plP plM plA plBN plBD plLN plLD plR veW veF veP vsF vsN vsD juM juP juTN juTD juO scN scD noF noN noD neF neN neD arP arB arM arU arF arR arL arT arA arS leN leD grN grD arH arLU arGU shN shD stF stN stD rest) (.inl (some (.ref 8))) (MC s0 s1 handN handD gT gF alE actions alM fiF fiN fiD epN epD goH goN goD plS plP plM plA plBN plBD plLN plLD plR veW veF veP vsF vsN vsD juM juP juTN juTD juO scN scD noF noN noD neF neN neD arP arB arM arU arF arR arL arT arA arS leN leD grN grD arH arLU arGU shN shD stF stN stD rest) := by
  refine Cg.of (Nat.le_of_ble_eq_true rfl) ?_
  change Rg _ _ _ _ 0 [(0, .ref 2)] [] _ _ _
  refine Rg.step 1 F_PJ_latestState_0 rfl (fun _ => rfl) ?_
  refine Rg.getf 4 F_PJ_latestState_1 rfl rF_1_35 gC_2 rfl ?_
  refine Rg.getf 7 F_PJ_latestState_4 rfl rF_1_261 gC_28 rfl ?_
  refine Rg.ifeqI 20 10 F_PJ_latestState_7 rfl rfl (by omega) (fun _ => ?_) (fun h7 => by omega)
  refine Rg.step 21 F_PJ_latestState_20 rfl (fun _ => rfl) ?_
  refine Rg.getf 24 F_PJ_latestState_21 rfl rF_1_21 gC_2 rfl ?_
  refine Rg.getf 27 F_PJ_latestState_24 rfl rF_1_75 gC_6 rfl ?_
  exact Rg.ret F_PJ_latestState_27 rfl
theorem c_PJ_row_a {d : Nat}  (wS : 0 ≤ plS ∧ plS ≤ 12) (hw : w = 0) (h : 0 ≤ i ∧ i < plS) : Cg true (d + 1) m_PJ_rowAskedFor [.ref 2, .int (iI w), .int (iI i)] (MC s0 s1 handN handD gT gF alE actions alM fiF fiN fiD epN epD goH goN goD plS plP plM plA plBN plBD plLN plLD plR veW veF veP vsF vsN vsD juM juP juTN juTD juO scN scD noF noN noD neF neN neD arP arB arM arU arF arR arL arT arA arS leN leD grN grD arH arLU arGU shN shD stF stN stD rest) (.inl (some (.ref 21))) (MC s0 s1 handN handD gT gF alE actions alM fiF fiN fiD epN epD goH goN goD plS plP plM plA plBN plBD plLN plLD plR veW veF veP vsF vsN vsD juM juP juTN juTD juO scN scD noF noN noD neF neN neD arP arB arM arU arF arR arL arT arA arS leN leD grN grD arH arLU arGU shN shD stF stN stD rest) := by
  refine Cg.of (Nat.le_of_ble_eq_true rfl) ?_
  change Rg _ _ _ _ 0 [(0, .ref 2), (1, .int (iI w)), (2, .int (iI i))] [] _ _ _
  refine Rg.step 1 F_PJ_rowAskedFor_0 rfl (fun _ => rfl) ?_
  refine Rg.step 2 F_PJ_rowAskedFor_1 rfl (fun _ => rfl) ?_
  refine Rg.step 3 F_PJ_rowAskedFor_2 rfl (fun _ => rfl) ?_
  refine Rg.call 6 F_PJ_rowAskedFor_3 rfl (one_S (by decide +kernel) rM_1_92 (by decide) (by simp) rfl rfl) (Nat.le_of_ble_eq_true rfl) (Cg.any (c_chk_ok (by omega) (by omega) (by omega) (by omega))) ?_
  refine Rg.step 7 F_PJ_rowAskedFor_6 rfl (fun _ => rfl) ?_
  refine Rg.step 8 F_PJ_rowAskedFor_7 rfl (fun _ => rfl) ?_
  refine Rg.step 9 F_PJ_rowAskedFor_8 rfl (fun _ => rfl) ?_
  refine Rg.icneI 17 12 F_PJ_rowAskedFor_9 rfl rfl (by omega) (by omega) (fun _ => ?_) (fun h9 => by omega)
  refine Rg.step 18 F_PJ_rowAskedFor_17 rfl (fun _ => rfl) ?_
  refine Rg.getf 21 F_PJ_rowAskedFor_18 rfl rF_1_28 gC_2 rfl ?_
  refine Rg.getf 24 F_PJ_rowAskedFor_21 rfl rF_1_160 gC_19 rfl ?_
  refine Rg.call 27 F_PJ_rowAskedFor_24 rfl (one_S (by decide +kernel) rM_1_71 (by decide) (by simp) rfl rfl) (Nat.le_of_ble_eq_true rfl) (Cg.any (c_idx_ok (by omega) (by omega) (by omega))) ?_
  refine Rg.step 28 F_PJ_rowAskedFor_27 rfl (fun _ => rfl) ?_
  refine Rg.step 29 F_PJ_rowAskedFor_28 rfl (fun _ => rfl) ?_
  refine Rg.icneI 40 32 F_PJ_rowAskedFor_29 rfl rfl (by omega) (by omega) (fun _ => ?_) (fun h29 => by omega)
  refine Rg.step 41 F_PJ_rowAskedFor_40 rfl (fun _ => rfl) ?_
  refine Rg.ifneI 54 44 F_PJ_rowAskedFor_41 rfl rfl (by omega) (fun h41 => by omega) (fun _ => ?_)
  refine Rg.step 45 F_PJ_rowAskedFor_44 rfl (fun _ => rfl) ?_
  refine Rg.getf 48 F_PJ_rowAskedFor_45 rfl rF_1_28 gC_2 rfl ?_
  refine Rg.getf 51 F_PJ_rowAskedFor_48 rfl rF_1_163 gC_19 rfl ?_
  refine Rg.step 61 F_PJ_rowAskedFor_51 rfl (fun _ => rfl) ?_
  exact Rg.ret F_PJ_rowAskedFor_61 rfl
theorem c_PJ_row_b {d : Nat}  (wS : 0 ≤ plS ∧ plS ≤ 12) (hw : w = 1) (h : 0 ≤ i ∧ i < plS) : Cg true (d + 1) m_PJ_rowAskedFor [.ref 2, .int (iI w), .int (iI i)] (MC s0 s1 handN handD gT gF alE actions alM fiF fiN fiD epN epD goH goN goD plS plP plM plA plBN plBD plLN plLD plR veW veF veP vsF vsN vsD juM juP juTN juTD juO scN scD noF noN noD neF neN neD arP arB arM arU arF arR arL arT arA arS leN leD grN grD arH arLU arGU shN shD stF stN stD rest) (.inl (some (.ref 24))) (MC s0 s1 handN handD gT gF alE actions alM fiF fiN fiD epN epD goH goN goD plS plP plM plA plBN plBD plLN plLD plR veW veF veP vsF vsN vsD juM juP juTN juTD juO scN scD noF noN noD neF neN neD arP arB arM arU arF arR arL arT arA arS leN leD grN grD arH arLU arGU shN shD stF stN stD rest) := by
  refine Cg.of (Nat.le_of_ble_eq_true rfl) ?_
  change Rg _ _ _ _ 0 [(0, .ref 2), (1, .int (iI w)), (2, .int (iI i))] [] _ _ _
  refine Rg.step 1 F_PJ_rowAskedFor_0 rfl (fun _ => rfl) ?_
  refine Rg.step 2 F_PJ_rowAskedFor_1 rfl (fun _ => rfl) ?_
  refine Rg.step 3 F_PJ_rowAskedFor_2 rfl (fun _ => rfl) ?_
  refine Rg.call 6 F_PJ_rowAskedFor_3 rfl (one_S (by decide +kernel) rM_1_92 (by decide) (by simp) rfl rfl) (Nat.le_of_ble_eq_true rfl) (Cg.any (c_chk_ok (by omega) (by omega) (by omega) (by omega))) ?_
  refine Rg.step 7 F_PJ_rowAskedFor_6 rfl (fun _ => rfl) ?_
  refine Rg.step 8 F_PJ_rowAskedFor_7 rfl (fun _ => rfl) ?_
  refine Rg.step 9 F_PJ_rowAskedFor_8 rfl (fun _ => rfl) ?_
  refine Rg.icneI 17 12 F_PJ_rowAskedFor_9 rfl rfl (by omega) (by omega) (fun _ => ?_) (fun h9 => by omega)
  refine Rg.step 18 F_PJ_rowAskedFor_17 rfl (fun _ => rfl) ?_
  refine Rg.getf 21 F_PJ_rowAskedFor_18 rfl rF_1_28 gC_2 rfl ?_
  refine Rg.getf 24 F_PJ_rowAskedFor_21 rfl rF_1_160 gC_19 rfl ?_
  refine Rg.call 27 F_PJ_rowAskedFor_24 rfl (one_S (by decide +kernel) rM_1_71 (by decide) (by simp) rfl rfl) (Nat.le_of_ble_eq_true rfl) (Cg.any (c_idx_ok (by omega) (by omega) (by omega))) ?_
  refine Rg.step 28 F_PJ_rowAskedFor_27 rfl (fun _ => rfl) ?_
  refine Rg.step 29 F_PJ_rowAskedFor_28 rfl (fun _ => rfl) ?_
  refine Rg.icneI 40 32 F_PJ_rowAskedFor_29 rfl rfl (by omega) (by omega) (fun _ => ?_) (fun h29 => by omega)
  refine Rg.step 41 F_PJ_rowAskedFor_40 rfl (fun _ => rfl) ?_
  refine Rg.ifneI 54 44 F_PJ_rowAskedFor_41 rfl rfl (by omega) (fun _ => ?_) (fun h41 => by omega)
  refine Rg.step 55 F_PJ_rowAskedFor_54 rfl (fun _ => rfl) ?_
  refine Rg.getf 58 F_PJ_rowAskedFor_55 rfl rF_1_28 gC_2 rfl ?_
  refine Rg.getf 61 F_PJ_rowAskedFor_58 rfl rF_1_166 gC_19 rfl ?_
  exact Rg.ret F_PJ_rowAskedFor_61 rfl
theorem c_PJ_row_c {d : Nat}  (wS : 0 ≤ plS ∧ plS ≤ 12) (hw : w = 2) (h : 0 ≤ i ∧ i ≤ 7) (hv : veW = 1) : Cg true (d + 1) m_PJ_rowAskedFor [.ref 2, .int (iI w), .int (iI i)] (MC s0 s1 handN handD gT gF alE actions alM fiF fiN fiD epN epD goH goN goD plS plP plM plA plBN plBD plLN plLD plR veW veF veP vsF vsN vsD juM juP juTN juTD juO scN scD noF noN noD neF neN neD arP arB arM arU arF arR arL arT arA arS leN leD grN grD arH arLU arGU shN shD stF stN stD rest) (.inl (some (.ref 30))) (MC s0 s1 handN handD gT gF alE actions alM fiF fiN fiD epN epD goH goN goD plS plP plM plA plBN plBD plLN plLD plR veW veF veP vsF vsN vsD juM juP juTN juTD juO scN scD noF noN noD neF neN neD arP arB arM arU arF arR arL arT arA arS leN leD grN grD arH arLU arGU shN shD stF stN stD rest) := by
  refine Cg.of (Nat.le_of_ble_eq_true rfl) ?_
  change Rg _ _ _ _ 0 [(0, .ref 2), (1, .int (iI w)), (2, .int (iI i))] [] _ _ _
  refine Rg.step 1 F_PJ_rowAskedFor_0 rfl (fun _ => rfl) ?_
  refine Rg.step 2 F_PJ_rowAskedFor_1 rfl (fun _ => rfl) ?_
  refine Rg.step 3 F_PJ_rowAskedFor_2 rfl (fun _ => rfl) ?_
  refine Rg.call 6 F_PJ_rowAskedFor_3 rfl (one_S (by decide +kernel) rM_1_92 (by decide) (by simp) rfl rfl) (Nat.le_of_ble_eq_true rfl) (Cg.any (c_chk_ok (by omega) (by omega) (by omega) (by omega))) ?_
  refine Rg.step 7 F_PJ_rowAskedFor_6 rfl (fun _ => rfl) ?_
  refine Rg.step 8 F_PJ_rowAskedFor_7 rfl (fun _ => rfl) ?_
  refine Rg.step 9 F_PJ_rowAskedFor_8 rfl (fun _ => rfl) ?_
  refine Rg.icneI 17 12 F_PJ_rowAskedFor_9 rfl rfl (by omega) (by omega) (fun h9 => by omega) (fun _ => ?_)
  refine Rg.bip 14 F_PJ_rowAskedFor_12 rfl rfl ?_
  refine Rg.step 24 F_PJ_rowAskedFor_14 rfl (fun _ => rfl) ?_
  refine Rg.call 27 F_PJ_rowAskedFor_24 rfl (one_S (by decide +kernel) rM_1_71 (by decide) (by simp) rfl rfl) (Nat.le_of_ble_eq_true rfl) (Cg.any (c_idx_ok (by omega) (by omega) (by omega))) ?_
  refine Rg.step 28 F_PJ_rowAskedFor_27 rfl (fun _ => rfl) ?_
  refine Rg.step 29 F_PJ_rowAskedFor_28 rfl (fun _ => rfl) ?_
  refine Rg.icneI 40 32 F_PJ_rowAskedFor_29 rfl rfl (by omega) (by omega) (fun h29 => by omega) (fun _ => ?_)
  refine Rg.step 33 F_PJ_rowAskedFor_32 rfl (fun _ => rfl) ?_
  refine Rg.call 36 F_PJ_rowAskedFor_33 rfl (one_V rM_1_251 (by decide) (by simp) rfl rfl gC_2 rfl) (Nat.le_of_ble_eq_true rfl) (Cg.any (c_PJ_late1 hv)) ?_
  refine Rg.getf 39 F_PJ_rowAskedFor_36 rfl rF_1_89 gC_29 rfl ?_
  exact Rg.ret F_PJ_rowAskedFor_39 rfl
theorem c_PJ_row_d {d : Nat}  (wS : 0 ≤ plS ∧ plS ≤ 12) (hw : w = 2) (h : 0 ≤ i ∧ i ≤ 7) (hv : veW = 0) : Cg true (d + 1) m_PJ_rowAskedFor [.ref 2, .int (iI w), .int (iI i)] (MC s0 s1 handN handD gT gF alE actions alM fiF fiN fiD epN epD goH goN goD plS plP plM plA plBN plBD plLN plLD plR veW veF veP vsF vsN vsD juM juP juTN juTD juO scN scD noF noN noD neF neN neD arP arB arM arU arF arR arL arT arA arS leN leD grN grD arH arLU arGU shN shD stF stN stD rest) (.inl (some (.ref 9))) (MC s0 s1 handN handD gT gF alE actions alM fiF fiN fiD epN epD goH goN goD plS plP plM plA plBN plBD plLN plLD plR veW veF veP vsF vsN vsD juM juP juTN juTD juO scN scD noF noN noD neF neN neD arP arB arM arU arF arR arL arT arA arS leN leD grN grD arH arLU arGU shN shD stF stN stD rest) := by
  refine Cg.of (Nat.le_of_ble_eq_true rfl) ?_
  change Rg _ _ _ _ 0 [(0, .ref 2), (1, .int (iI w)), (2, .int (iI i))] [] _ _ _
  refine Rg.step 1 F_PJ_rowAskedFor_0 rfl (fun _ => rfl) ?_
  refine Rg.step 2 F_PJ_rowAskedFor_1 rfl (fun _ => rfl) ?_
  refine Rg.step 3 F_PJ_rowAskedFor_2 rfl (fun _ => rfl) ?_
  refine Rg.call 6 F_PJ_rowAskedFor_3 rfl (one_S (by decide +kernel) rM_1_92 (by decide) (by simp) rfl rfl) (Nat.le_of_ble_eq_true rfl) (Cg.any (c_chk_ok (by omega) (by omega) (by omega) (by omega))) ?_
  refine Rg.step 7 F_PJ_rowAskedFor_6 rfl (fun _ => rfl) ?_
  refine Rg.step 8 F_PJ_rowAskedFor_7 rfl (fun _ => rfl) ?_
  refine Rg.step 9 F_PJ_rowAskedFor_8 rfl (fun _ => rfl) ?_
  refine Rg.icneI 17 12 F_PJ_rowAskedFor_9 rfl rfl (by omega) (by omega) (fun h9 => by omega) (fun _ => ?_)
  refine Rg.bip 14 F_PJ_rowAskedFor_12 rfl rfl ?_
  refine Rg.step 24 F_PJ_rowAskedFor_14 rfl (fun _ => rfl) ?_
  refine Rg.call 27 F_PJ_rowAskedFor_24 rfl (one_S (by decide +kernel) rM_1_71 (by decide) (by simp) rfl rfl) (Nat.le_of_ble_eq_true rfl) (Cg.any (c_idx_ok (by omega) (by omega) (by omega))) ?_
  refine Rg.step 28 F_PJ_rowAskedFor_27 rfl (fun _ => rfl) ?_
  refine Rg.step 29 F_PJ_rowAskedFor_28 rfl (fun _ => rfl) ?_
  refine Rg.icneI 40 32 F_PJ_rowAskedFor_29 rfl rfl (by omega) (by omega) (fun h29 => by omega) (fun _ => ?_)
  refine Rg.step 33 F_PJ_rowAskedFor_32 rfl (fun _ => rfl) ?_
  refine Rg.call 36 F_PJ_rowAskedFor_33 rfl (one_V rM_1_251 (by decide) (by simp) rfl rfl gC_2 rfl) (Nat.le_of_ble_eq_true rfl) (Cg.any (c_PJ_late0 hv)) ?_
  refine Rg.getf 39 F_PJ_rowAskedFor_36 rfl rF_1_89 gC_8 rfl ?_
  exact Rg.ret F_PJ_rowAskedFor_39 rfl
theorem c_PJ_row1 {d : Nat} (b_w : -2147483648 ≤ w ∧ w < 2147483648) (hw : ¬ (0 ≤ w ∧ w ≤ 2)) : Cg true (d + 1) m_PJ_rowAskedFor [.ref 2, .int (iI w), .int (iI i)] (MC s0 s1 handN handD gT gF alE actions alM fiF fiN fiD epN epD goH goN goD plS plP plM plA plBN plBD plLN plLD plR veW veF veP vsF vsN vsD juM juP juTN juTD juO scN scD noF noN noD neF neN neD arP arB arM arU arF arR arL arT arA arS leN leD grN grD arH arLU arGU shN shD stF stN stD rest) (.inr (MC s0 s1 handN handD gT gF alE actions alM fiF fiN fiD epN epD goH goN goD plS plP plM plA plBN plBD plLN plLD plR veW veF veP vsF vsN vsD juM juP juTN juTD juO scN scD noF noN noD neF neN neD arP arB arM arU arF arR arL arT arA arS leN leD grN grD arH arLU arGU shN shD stF stN stD rest).length) ((MC s0 s1 handN handD gT gF alE actions alM fiF fiN fiD epN epD goH goN goD plS plP plM plA plBN plBD plLN plLD plR veW veF veP vsF vsN vsD juM juP juTN juTD juO scN scD noF noN noD neF neN neD arP arB arM arU arF arR arL arT arA arS leN leD grN grD arH arLU arGU shN shD stF stN stD rest) ++ [.inr (12, [])]) := by
  refine Cg.of (Nat.le_of_ble_eq_true rfl) ?_
  change Rg _ _ _ _ 0 [(0, .ref 2), (1, .int (iI w)), (2, .int (iI i))] [] _ _ _
  refine Rg.step 1 F_PJ_rowAskedFor_0 rfl (fun _ => rfl) ?_
  refine Rg.step 2 F_PJ_rowAskedFor_1 rfl (fun _ => rfl) ?_
  refine Rg.step 3 F_PJ_rowAskedFor_2 rfl (fun _ => rfl) ?_
  exact Rg.callT F_PJ_rowAskedFor_3 (one_S (by decide +kernel) rM_1_92 (by decide) (by simp) rfl rfl) (Nat.le_of_ble_eq_true rfl) (c_chk_no (by omega) (by omega) (by omega) (by omega)) gX rfl
theorem c_PJ_row2 {d : Nat} (wS : 0 ≤ plS ∧ plS ≤ 12) (b_i : -2147483648 ≤ i ∧ i < 2147483648) (hw : 0 ≤ w ∧ w ≤ 2) (h2 : (w = 2 ∧ ¬ (0 ≤ i ∧ i ≤ 7)) ∨ (¬ w = 2 ∧ ¬ (0 ≤ i ∧ i < plS))) : Cg true (d + 1) m_PJ_rowAskedFor [.ref 2, .int (iI w), .int (iI i)] (MC s0 s1 handN handD gT gF alE actions alM fiF fiN fiD epN epD goH goN goD plS plP plM plA plBN plBD plLN plLD plR veW veF veP vsF vsN vsD juM juP juTN juTD juO scN scD noF noN noD neF neN neD arP arB arM arU arF arR arL arT arA arS leN leD grN grD arH arLU arGU shN shD stF stN stD rest) (.inr (MC s0 s1 handN handD gT gF alE actions alM fiF fiN fiD epN epD goH goN goD plS plP plM plA plBN plBD plLN plLD plR veW veF veP vsF vsN vsD juM juP juTN juTD juO scN scD noF noN noD neF neN neD arP arB arM arU arF arR arL arT arA arS leN leD grN grD arH arLU arGU shN shD stF stN stD rest).length) ((MC s0 s1 handN handD gT gF alE actions alM fiF fiN fiD epN epD goH goN goD plS plP plM plA plBN plBD plLN plLD plR veW veF veP vsF vsN vsD juM juP juTN juTD juO scN scD noF noN noD neF neN neD arP arB arM arU arF arR arL arT arA arS leN leD grN grD arH arLU arGU shN shD stF stN stD rest) ++ [.inr (13, [])]) := by
  refine Cg.of (Nat.le_of_ble_eq_true rfl) ?_
  change Rg _ _ _ _ 0 [(0, .ref 2), (1, .int (iI w)), (2, .int (iI i))] [] _ _ _
  refine Rg.step 1 F_PJ_rowAskedFor_0 rfl (fun _ => rfl) ?_
  refine Rg.step 2 F_PJ_rowAskedFor_1 rfl (fun _ => rfl) ?_
  refine Rg.step 3 F_PJ_rowAskedFor_2 rfl (fun _ => rfl) ?_
  refine Rg.call 6 F_PJ_rowAskedFor_3 rfl (one_S (by decide +kernel) rM_1_92 (by decide) (by simp) rfl rfl) (Nat.le_of_ble_eq_true rfl) (Cg.any (c_chk_ok (by omega) (by omega) (by omega) (by omega))) ?_
  refine Rg.step 7 F_PJ_rowAskedFor_6 rfl (fun _ => rfl) ?_
  refine Rg.step 8 F_PJ_rowAskedFor_7 rfl (fun _ => rfl) ?_
  refine Rg.step 9 F_PJ_rowAskedFor_8 rfl (fun _ => rfl) ?_
  refine Rg.icneI 17 12 F_PJ_rowAskedFor_9 rfl rfl (by omega) (by omega) (fun h9 => ?_) (fun h9 => ?_)
  · refine Rg.step 18 F_PJ_rowAskedFor_17 rfl (fun _ => rfl) ?_
    refine Rg.getf 21 F_PJ_rowAskedFor_18 rfl rF_1_28 gC_2 rfl ?_
    refine Rg.getf 24 F_PJ_rowAskedFor_21 rfl rF_1_160 gC_19 rfl ?_
    exact Rg.callT F_PJ_rowAskedFor_24 (one_S (by decide +kernel) rM_1_71 (by decide) (by simp) rfl rfl) (Nat.le_of_ble_eq_true rfl) (c_idx_no (by omega) (by omega) (by omega)) gX rfl
  · refine Rg.bip 14 F_PJ_rowAskedFor_12 rfl rfl ?_
    refine Rg.step 24 F_PJ_rowAskedFor_14 rfl (fun _ => rfl) ?_
    exact Rg.callT F_PJ_rowAskedFor_24 (one_S (by decide +kernel) rM_1_71 (by decide) (by simp) rfl rfl) (Nat.le_of_ble_eq_true rfl) (c_idx_no (by omega) (by omega) (by omega)) gX rfl
theorem c_PJ_above_a {d : Nat}  (wS : 0 ≤ plS ∧ plS ≤ 12) (hw : w = 0) (h : 0 ≤ i ∧ i < plS) : Cg true (d + 2) m_PJ_above [.ref 2, .int (iI w), .int (iI i)] (MC s0 s1 handN handD gT gF alE actions alM fiF fiN fiD epN epD goH goN goD plS plP plM plA plBN plBD plLN plLD plR veW veF veP vsF vsN vsD juM juP juTN juTD juO scN scD noF noN noD neF neN neD arP arB arM arU arF arR arL arT arA arS leN leD grN grD arH arLU arGU shN shD stF stN stD rest) (.inl (some (.long (lI (plBN i))))) (MC s0 s1 handN handD gT gF alE actions alM fiF fiN fiD epN epD goH goN goD plS plP plM plA plBN plBD plLN plLD plR veW veF veP vsF vsN vsD juM juP juTN juTD juO scN scD noF noN noD neF neN neD arP arB arM arU arF arR arL arT arA arS leN leD grN grD arH arLU arGU shN shD stF stN stD rest) := by
  refine Cg.of (Nat.le_of_ble_eq_true rfl) ?_
  change Rg _ _ _ _ 0 [(0, .ref 2), (1, .int (iI w)), (2, .int (iI i))] [] _ _ _
  refine Rg.step 1 F_PJ_above_0 rfl (fun _ => rfl) ?_
  refine Rg.step 2 F_PJ_above_1 rfl (fun _ => rfl) ?_
  refine Rg.step 3 F_PJ_above_2 rfl (fun _ => rfl) ?_
  refine Rg.call 6 F_PJ_above_3 rfl (one_V rM_1_244 (by decide) (by simp) rfl rfl gC_2 rfl) (Nat.le_of_ble_eq_true rfl) (Cg.any (c_PJ_row_a wS hw h)) ?_
  refine Rg.getf 9 F_PJ_above_6 rfl rF_1_57 gC_21 rfl ?_
  refine Rg.step 10 F_PJ_above_9 rfl (fun _ => rfl) ?_
  refine Rg.lld 11 F_PJ_above_10 rfl gC_22 (by omega) (by decide) ?_
  exact Rg.retL F_PJ_above_11 rfl rfl rfl
theorem c_PJ_above_b {d : Nat}  (wS : 0 ≤ plS ∧ plS ≤ 12) (hw : w = 1) (h : 0 ≤ i ∧ i < plS) : Cg true (d + 2) m_PJ_above [.ref 2, .int (iI w), .int (iI i)] (MC s0 s1 handN handD gT gF alE actions alM fiF fiN fiD epN epD goH goN goD plS plP plM plA plBN plBD plLN plLD plR veW veF veP vsF vsN vsD juM juP juTN juTD juO scN scD noF noN noD neF neN neD arP arB arM arU arF arR arL arT arA arS leN leD grN grD arH arLU arGU shN shD stF stN stD rest) (.inl (some (.long (lI (plLN i))))) (MC s0 s1 handN handD gT gF alE actions alM fiF fiN fiD epN epD goH goN goD plS plP plM plA plBN plBD plLN plLD plR veW veF veP vsF vsN vsD juM juP juTN juTD juO scN scD noF noN noD neF neN neD arP arB arM arU arF arR arL arT arA arS leN leD grN grD arH arLU arGU shN shD stF stN stD rest) := by
  refine Cg.of (Nat.le_of_ble_eq_true rfl) ?_
  change Rg _ _ _ _ 0 [(0, .ref 2), (1, .int (iI w)), (2, .int (iI i))] [] _ _ _
  refine Rg.step 1 F_PJ_above_0 rfl (fun _ => rfl) ?_
  refine Rg.step 2 F_PJ_above_1 rfl (fun _ => rfl) ?_
  refine Rg.step 3 F_PJ_above_2 rfl (fun _ => rfl) ?_
  refine Rg.call 6 F_PJ_above_3 rfl (one_V rM_1_244 (by decide) (by simp) rfl rfl gC_2 rfl) (Nat.le_of_ble_eq_true rfl) (Cg.any (c_PJ_row_b wS hw h)) ?_
  refine Rg.getf 9 F_PJ_above_6 rfl rF_1_57 gC_24 rfl ?_
  refine Rg.step 10 F_PJ_above_9 rfl (fun _ => rfl) ?_
  refine Rg.lld 11 F_PJ_above_10 rfl gC_25 (by omega) (by decide) ?_
  exact Rg.retL F_PJ_above_11 rfl rfl rfl
theorem c_PJ_above_c {d : Nat}  (wS : 0 ≤ plS ∧ plS ≤ 12) (hw : w = 2) (h : 0 ≤ i ∧ i ≤ 7) (hv : veW = 1) : Cg true (d + 2) m_PJ_above [.ref 2, .int (iI w), .int (iI i)] (MC s0 s1 handN handD gT gF alE actions alM fiF fiN fiD epN epD goH goN goD plS plP plM plA plBN plBD plLN plLD plR veW veF veP vsF vsN vsD juM juP juTN juTD juO scN scD noF noN noD neF neN neD arP arB arM arU arF arR arL arT arA arS leN leD grN grD arH arLU arGU shN shD stF stN stD rest) (.inl (some (.long (lI (vsN i))))) (MC s0 s1 handN handD gT gF alE actions alM fiF fiN fiD epN epD goH goN goD plS plP plM plA plBN plBD plLN plLD plR veW veF veP vsF vsN vsD juM juP juTN juTD juO scN scD noF noN noD neF neN neD arP arB arM arU arF arR arL arT arA arS leN leD grN grD arH arLU arGU shN shD stF stN stD rest) := by
  refine Cg.of (Nat.le_of_ble_eq_true rfl) ?_
  change Rg _ _ _ _ 0 [(0, .ref 2), (1, .int (iI w)), (2, .int (iI i))] [] _ _ _
  refine Rg.step 1 F_PJ_above_0 rfl (fun _ => rfl) ?_
  refine Rg.step 2 F_PJ_above_1 rfl (fun _ => rfl) ?_
  refine Rg.step 3 F_PJ_above_2 rfl (fun _ => rfl) ?_
  refine Rg.call 6 F_PJ_above_3 rfl (one_V rM_1_244 (by decide) (by simp) rfl rfl gC_2 rfl) (Nat.le_of_ble_eq_true rfl) (Cg.any (c_PJ_row_c wS hw h hv)) ?_
  refine Rg.getf 9 F_PJ_above_6 rfl rF_1_57 gC_30 rfl ?_
  refine Rg.step 10 F_PJ_above_9 rfl (fun _ => rfl) ?_
  refine Rg.lld 11 F_PJ_above_10 rfl gC_31 (by omega) (by decide) ?_
  exact Rg.retL F_PJ_above_11 rfl rfl rfl
theorem c_PJ_above_d {d : Nat}  (wS : 0 ≤ plS ∧ plS ≤ 12) (hw : w = 2) (h : 0 ≤ i ∧ i ≤ 7) (hv : veW = 0) : Cg true (d + 2) m_PJ_above [.ref 2, .int (iI w), .int (iI i)] (MC s0 s1 handN handD gT gF alE actions alM fiF fiN fiD epN epD goH goN goD plS plP plM plA plBN plBD plLN plLD plR veW veF veP vsF vsN vsD juM juP juTN juTD juO scN scD noF noN noD neF neN neD arP arB arM arU arF arR arL arT arA arS leN leD grN grD arH arLU arGU shN shD stF stN stD rest) (.inl (some (.long (lI (fiN i))))) (MC s0 s1 handN handD gT gF alE actions alM fiF fiN fiD epN epD goH goN goD plS plP plM plA plBN plBD plLN plLD plR veW veF veP vsF vsN vsD juM juP juTN juTD juO scN scD noF noN noD neF neN neD arP arB arM arU arF arR arL arT arA arS leN leD grN grD arH arLU arGU shN shD stF stN stD rest) := by
  refine Cg.of (Nat.le_of_ble_eq_true rfl) ?_
  change Rg _ _ _ _ 0 [(0, .ref 2), (1, .int (iI w)), (2, .int (iI i))] [] _ _ _
  refine Rg.step 1 F_PJ_above_0 rfl (fun _ => rfl) ?_
  refine Rg.step 2 F_PJ_above_1 rfl (fun _ => rfl) ?_
  refine Rg.step 3 F_PJ_above_2 rfl (fun _ => rfl) ?_
  refine Rg.call 6 F_PJ_above_3 rfl (one_V rM_1_244 (by decide) (by simp) rfl rfl gC_2 rfl) (Nat.le_of_ble_eq_true rfl) (Cg.any (c_PJ_row_d wS hw h hv)) ?_
  refine Rg.getf 9 F_PJ_above_6 rfl rF_1_57 gC_9 rfl ?_
  refine Rg.step 10 F_PJ_above_9 rfl (fun _ => rfl) ?_
  refine Rg.lld 11 F_PJ_above_10 rfl gC_10 (by omega) (by decide) ?_
  exact Rg.retL F_PJ_above_11 rfl rfl rfl
theorem c_PJ_above1 {d : Nat} (b_w : -2147483648 ≤ w ∧ w < 2147483648) (hw : ¬ (0 ≤ w ∧ w ≤ 2)) : Cg true (d + 2) m_PJ_above [.ref 2, .int (iI w), .int (iI i)] (MC s0 s1 handN handD gT gF alE actions alM fiF fiN fiD epN epD goH goN goD plS plP plM plA plBN plBD plLN plLD plR veW veF veP vsF vsN vsD juM juP juTN juTD juO scN scD noF noN noD neF neN neD arP arB arM arU arF arR arL arT arA arS leN leD grN grD arH arLU arGU shN shD stF stN stD rest) (.inr (MC s0 s1 handN handD gT gF alE actions alM fiF fiN fiD epN epD goH goN goD plS plP plM plA plBN plBD plLN plLD plR veW veF veP vsF vsN vsD juM juP juTN juTD juO scN scD noF noN noD neF neN neD arP arB arM arU arF arR arL arT arA arS leN leD grN grD arH arLU arGU shN shD stF stN stD rest).length) ((MC s0 s1 handN handD gT gF alE actions alM fiF fiN fiD epN epD goH goN goD plS plP plM plA plBN plBD plLN plLD plR veW veF veP vsF vsN vsD juM juP juTN juTD juO scN scD noF noN noD neF neN neD arP arB arM arU arF arR arL arT arA arS leN leD grN grD arH arLU arGU shN shD stF stN stD rest) ++ [.inr (12, [])]) := by
  refine Cg.of (Nat.le_of_ble_eq_true rfl) ?_
  change Rg _ _ _ _ 0 [(0, .ref 2), (1, .int (iI w)), (2, .int (iI i))] [] _ _ _
  refine Rg.step 1 F_PJ_above_0 rfl (fun _ => rfl) ?_
  refine Rg.step 2 F_PJ_above_1 rfl (fun _ => rfl) ?_
  refine Rg.step 3 F_PJ_above_2 rfl (fun _ => rfl) ?_
  exact Rg.callT F_PJ_above_3 (one_V rM_1_244 (by decide) (by simp) rfl rfl gC_2 rfl) (Nat.le_of_ble_eq_true rfl) (c_PJ_row1 b_w hw) gX rfl
theorem c_PJ_above2 {d : Nat} (wS : 0 ≤ plS ∧ plS ≤ 12) (b_i : -2147483648 ≤ i ∧ i < 2147483648) (hw : 0 ≤ w ∧ w ≤ 2) (h2 : (w = 2 ∧ ¬ (0 ≤ i ∧ i ≤ 7)) ∨ (¬ w = 2 ∧ ¬ (0 ≤ i ∧ i < plS))) : Cg true (d + 2) m_PJ_above [.ref 2, .int (iI w), .int (iI i)] (MC s0 s1 handN handD gT gF alE actions alM fiF fiN fiD epN epD goH goN goD plS plP plM plA plBN plBD plLN plLD plR veW veF veP vsF vsN vsD juM juP juTN juTD juO scN scD noF noN noD neF neN neD arP arB arM arU arF arR arL arT arA arS leN leD grN grD arH arLU arGU shN shD stF stN stD rest) (.inr (MC s0 s1 handN handD gT gF alE actions alM fiF fiN fiD epN epD goH goN goD plS plP plM plA plBN plBD plLN plLD plR veW veF veP vsF vsN vsD juM juP juTN juTD juO scN scD noF noN noD neF neN neD arP arB arM arU arF arR arL arT arA arS leN leD grN grD arH arLU arGU shN shD stF stN stD rest).length) ((MC s0 s1 handN handD gT gF alE actions alM fiF fiN fiD epN epD goH goN goD plS plP plM plA plBN plBD plLN plLD plR veW veF veP vsF vsN vsD juM juP juTN juTD juO scN scD noF noN noD neF neN neD arP arB arM arU arF arR arL arT arA arS leN leD grN grD arH arLU arGU shN shD stF stN stD rest) ++ [.inr (13, [])]) := by
  refine Cg.of (Nat.le_of_ble_eq_true rfl) ?_
  change Rg _ _ _ _ 0 [(0, .ref 2), (1, .int (iI w)), (2, .int (iI i))] [] _ _ _
  refine Rg.step 1 F_PJ_above_0 rfl (fun _ => rfl) ?_
  refine Rg.step 2 F_PJ_above_1 rfl (fun _ => rfl) ?_
  refine Rg.step 3 F_PJ_above_2 rfl (fun _ => rfl) ?_
  exact Rg.callT F_PJ_above_3 (one_V rM_1_244 (by decide) (by simp) rfl rfl gC_2 rfl) (Nat.le_of_ble_eq_true rfl) (c_PJ_row2 wS b_i hw h2) gX rfl
theorem c_PJ_below_a {d : Nat}  (wS : 0 ≤ plS ∧ plS ≤ 12) (hw : w = 0) (h : 0 ≤ i ∧ i < plS) : Cg true (d + 2) m_PJ_below [.ref 2, .int (iI w), .int (iI i)] (MC s0 s1 handN handD gT gF alE actions alM fiF fiN fiD epN epD goH goN goD plS plP plM plA plBN plBD plLN plLD plR veW veF veP vsF vsN vsD juM juP juTN juTD juO scN scD noF noN noD neF neN neD arP arB arM arU arF arR arL arT arA arS leN leD grN grD arH arLU arGU shN shD stF stN stD rest) (.inl (some (.long (lI (plBD i))))) (MC s0 s1 handN handD gT gF alE actions alM fiF fiN fiD epN epD goH goN goD plS plP plM plA plBN plBD plLN plLD plR veW veF veP vsF vsN vsD juM juP juTN juTD juO scN scD noF noN noD neF neN neD arP arB arM arU arF arR arL arT arA arS leN leD grN grD arH arLU arGU shN shD stF stN stD rest) := by
  refine Cg.of (Nat.le_of_ble_eq_true rfl) ?_
  change Rg _ _ _ _ 0 [(0, .ref 2), (1, .int (iI w)), (2, .int (iI i))] [] _ _ _
  refine Rg.step 1 F_PJ_below_0 rfl (fun _ => rfl) ?_
  refine Rg.step 2 F_PJ_below_1 rfl (fun _ => rfl) ?_
  refine Rg.step 3 F_PJ_below_2 rfl (fun _ => rfl) ?_
  refine Rg.call 6 F_PJ_below_3 rfl (one_V rM_1_244 (by decide) (by simp) rfl rfl gC_2 rfl) (Nat.le_of_ble_eq_true rfl) (Cg.any (c_PJ_row_a wS hw h)) ?_
  refine Rg.getf 9 F_PJ_below_6 rfl rF_1_248 gC_21 rfl ?_
  refine Rg.step 10 F_PJ_below_9 rfl (fun _ => rfl) ?_
  refine Rg.lld 11 F_PJ_below_10 rfl gC_23 (by omega) (by decide) ?_
  exact Rg.retL F_PJ_below_11 rfl rfl rfl
theorem c_PJ_below_b {d : Nat}  (wS : 0 ≤ plS ∧ plS ≤ 12) (hw : w = 1) (h : 0 ≤ i ∧ i < plS) : Cg true (d + 2) m_PJ_below [.ref 2, .int (iI w), .int (iI i)] (MC s0 s1 handN handD gT gF alE actions alM fiF fiN fiD epN epD goH goN goD plS plP plM plA plBN plBD plLN plLD plR veW veF veP vsF vsN vsD juM juP juTN juTD juO scN scD noF noN noD neF neN neD arP arB arM arU arF arR arL arT arA arS leN leD grN grD arH arLU arGU shN shD stF stN stD rest) (.inl (some (.long (lI (plLD i))))) (MC s0 s1 handN handD gT gF alE actions alM fiF fiN fiD epN epD goH goN goD plS plP plM plA plBN plBD plLN plLD plR veW veF veP vsF vsN vsD juM juP juTN juTD juO scN scD noF noN noD neF neN neD arP arB arM arU arF arR arL arT arA arS leN leD grN grD arH arLU arGU shN shD stF stN stD rest) := by
  refine Cg.of (Nat.le_of_ble_eq_true rfl) ?_
  change Rg _ _ _ _ 0 [(0, .ref 2), (1, .int (iI w)), (2, .int (iI i))] [] _ _ _
  refine Rg.step 1 F_PJ_below_0 rfl (fun _ => rfl) ?_
  refine Rg.step 2 F_PJ_below_1 rfl (fun _ => rfl) ?_
  refine Rg.step 3 F_PJ_below_2 rfl (fun _ => rfl) ?_
  refine Rg.call 6 F_PJ_below_3 rfl (one_V rM_1_244 (by decide) (by simp) rfl rfl gC_2 rfl) (Nat.le_of_ble_eq_true rfl) (Cg.any (c_PJ_row_b wS hw h)) ?_
  refine Rg.getf 9 F_PJ_below_6 rfl rF_1_248 gC_24 rfl ?_
  refine Rg.step 10 F_PJ_below_9 rfl (fun _ => rfl) ?_
  refine Rg.lld 11 F_PJ_below_10 rfl gC_26 (by omega) (by decide) ?_
  exact Rg.retL F_PJ_below_11 rfl rfl rfl
theorem c_PJ_below_c {d : Nat}  (wS : 0 ≤ plS ∧ plS ≤ 12) (hw : w = 2) (h : 0 ≤ i ∧ i ≤ 7) (hv : veW = 1) : Cg true (d + 2) m_PJ_below [.ref 2, .int (iI w), .int (iI i)] (MC s0 s1 handN handD gT gF alE actions alM fiF fiN fiD epN epD goH goN goD plS plP plM plA plBN plBD plLN plLD plR veW veF veP vsF vsN vsD juM juP juTN juTD juO scN scD noF noN noD neF neN neD arP arB arM arU arF arR arL arT arA arS leN leD grN grD arH arLU arGU shN shD stF stN stD rest) (.inl (some (.long (lI (vsD i))))) (MC s0 s1 handN handD gT gF alE actions alM fiF fiN fiD epN epD goH goN goD plS plP plM plA plBN plBD plLN plLD plR veW veF veP vsF vsN vsD juM juP juTN juTD juO scN scD noF noN noD neF neN neD arP arB arM arU arF arR arL arT arA arS leN leD grN grD arH arLU arGU shN shD stF stN stD rest) := by
  refine Cg.of (Nat.le_of_ble_eq_true rfl) ?_
  change Rg _ _ _ _ 0 [(0, .ref 2), (1, .int (iI w)), (2, .int (iI i))] [] _ _ _
  refine Rg.step 1 F_PJ_below_0 rfl (fun _ => rfl) ?_
  refine Rg.step 2 F_PJ_below_1 rfl (fun _ => rfl) ?_
  refine Rg.step 3 F_PJ_below_2 rfl (fun _ => rfl) ?_
  refine Rg.call 6 F_PJ_below_3 rfl (one_V rM_1_244 (by decide) (by simp) rfl rfl gC_2 rfl) (Nat.le_of_ble_eq_true rfl) (Cg.any (c_PJ_row_c wS hw h hv)) ?_
  refine Rg.getf 9 F_PJ_below_6 rfl rF_1_248 gC_30 rfl ?_
  refine Rg.step 10 F_PJ_below_9 rfl (fun _ => rfl) ?_
  refine Rg.lld 11 F_PJ_below_10 rfl gC_32 (by omega) (by decide) ?_
  exact Rg.retL F_PJ_below_11 rfl rfl rfl
theorem c_PJ_below_d {d : Nat}  (wS : 0 ≤ plS ∧ plS ≤ 12) (hw : w = 2) (h : 0 ≤ i ∧ i ≤ 7) (hv : veW = 0) : Cg true (d + 2) m_PJ_below [.ref 2, .int (iI w), .int (iI i)] (MC s0 s1 handN handD gT gF alE actions alM fiF fiN fiD epN epD goH goN goD plS plP plM plA plBN plBD plLN plLD plR veW veF veP vsF vsN vsD juM juP juTN juTD juO scN scD noF noN noD neF neN neD arP arB arM arU arF arR arL arT arA arS leN leD grN grD arH arLU arGU shN shD stF stN stD rest) (.inl (some (.long (lI (fiD i))))) (MC s0 s1 handN handD gT gF alE actions alM fiF fiN fiD epN epD goH goN goD plS plP plM plA plBN plBD plLN plLD plR veW veF veP vsF vsN vsD juM juP juTN juTD juO scN scD noF noN noD neF neN neD arP arB arM arU arF arR arL arT arA arS leN leD grN grD arH arLU arGU shN shD stF stN stD rest) := by
  refine Cg.of (Nat.le_of_ble_eq_true rfl) ?_
  change Rg _ _ _ _ 0 [(0, .ref 2), (1, .int (iI w)), (2, .int (iI i))] [] _ _ _
  refine Rg.step 1 F_PJ_below_0 rfl (fun _ => rfl) ?_
  refine Rg.step 2 F_PJ_below_1 rfl (fun _ => rfl) ?_
  refine Rg.step 3 F_PJ_below_2 rfl (fun _ => rfl) ?_
  refine Rg.call 6 F_PJ_below_3 rfl (one_V rM_1_244 (by decide) (by simp) rfl rfl gC_2 rfl) (Nat.le_of_ble_eq_true rfl) (Cg.any (c_PJ_row_d wS hw h hv)) ?_
  refine Rg.getf 9 F_PJ_below_6 rfl rF_1_248 gC_9 rfl ?_
  refine Rg.step 10 F_PJ_below_9 rfl (fun _ => rfl) ?_
  refine Rg.lld 11 F_PJ_below_10 rfl gC_11 (by omega) (by decide) ?_
  exact Rg.retL F_PJ_below_11 rfl rfl rfl
theorem c_PJ_below1 {d : Nat} (b_w : -2147483648 ≤ w ∧ w < 2147483648) (hw : ¬ (0 ≤ w ∧ w ≤ 2)) : Cg true (d + 2) m_PJ_below [.ref 2, .int (iI w), .int (iI i)] (MC s0 s1 handN handD gT gF alE actions alM fiF fiN fiD epN epD goH goN goD plS plP plM plA plBN plBD plLN plLD plR veW veF veP vsF vsN vsD juM juP juTN juTD juO scN scD noF noN noD neF neN neD arP arB arM arU arF arR arL arT arA arS leN leD grN grD arH arLU arGU shN shD stF stN stD rest) (.inr (MC s0 s1 handN handD gT gF alE actions alM fiF fiN fiD epN epD goH goN goD plS plP plM plA plBN plBD plLN plLD plR veW veF veP vsF vsN vsD juM juP juTN juTD juO scN scD noF noN noD neF neN neD arP arB arM arU arF arR arL arT arA arS leN leD grN grD arH arLU arGU shN shD stF stN stD rest).length) ((MC s0 s1 handN handD gT gF alE actions alM fiF fiN fiD epN epD goH goN goD plS plP plM plA plBN plBD plLN plLD plR veW veF veP vsF vsN vsD juM juP juTN juTD juO scN scD noF noN noD neF neN neD arP arB arM arU arF arR arL arT arA arS leN leD grN grD arH arLU arGU shN shD stF stN stD rest) ++ [.inr (12, [])]) := by
  refine Cg.of (Nat.le_of_ble_eq_true rfl) ?_
  change Rg _ _ _ _ 0 [(0, .ref 2), (1, .int (iI w)), (2, .int (iI i))] [] _ _ _
  refine Rg.step 1 F_PJ_below_0 rfl (fun _ => rfl) ?_
  refine Rg.step 2 F_PJ_below_1 rfl (fun _ => rfl) ?_
  refine Rg.step 3 F_PJ_below_2 rfl (fun _ => rfl) ?_
  exact Rg.callT F_PJ_below_3 (one_V rM_1_244 (by decide) (by simp) rfl rfl gC_2 rfl) (Nat.le_of_ble_eq_true rfl) (c_PJ_row1 b_w hw) gX rfl
theorem c_PJ_below2 {d : Nat} (wS : 0 ≤ plS ∧ plS ≤ 12) (b_i : -2147483648 ≤ i ∧ i < 2147483648) (hw : 0 ≤ w ∧ w ≤ 2) (h2 : (w = 2 ∧ ¬ (0 ≤ i ∧ i ≤ 7)) ∨ (¬ w = 2 ∧ ¬ (0 ≤ i ∧ i < plS))) : Cg true (d + 2) m_PJ_below [.ref 2, .int (iI w), .int (iI i)] (MC s0 s1 handN handD gT gF alE actions alM fiF fiN fiD epN epD goH goN goD plS plP plM plA plBN plBD plLN plLD plR veW veF veP vsF vsN vsD juM juP juTN juTD juO scN scD noF noN noD neF neN neD arP arB arM arU arF arR arL arT arA arS leN leD grN grD arH arLU arGU shN shD stF stN stD rest) (.inr (MC s0 s1 handN handD gT gF alE actions alM fiF fiN fiD epN epD goH goN goD plS plP plM plA plBN plBD plLN plLD plR veW veF veP vsF vsN vsD juM juP juTN juTD juO scN scD noF noN noD neF neN neD arP arB arM arU arF arR arL arT arA arS leN leD grN grD arH arLU arGU shN shD stF stN stD rest).length) ((MC s0 s1 handN handD gT gF alE actions alM fiF fiN fiD epN epD goH goN goD plS plP plM plA plBN plBD plLN plLD plR veW veF veP vsF vsN vsD juM juP juTN juTD juO scN scD noF noN noD neF neN neD arP arB arM arU arF arR arL arT arA arS leN leD grN grD arH arLU arGU shN shD stF stN stD rest) ++ [.inr (13, [])]) := by
  refine Cg.of (Nat.le_of_ble_eq_true rfl) ?_
  change Rg _ _ _ _ 0 [(0, .ref 2), (1, .int (iI w)), (2, .int (iI i))] [] _ _ _
  refine Rg.step 1 F_PJ_below_0 rfl (fun _ => rfl) ?_
  refine Rg.step 2 F_PJ_below_1 rfl (fun _ => rfl) ?_
  refine Rg.step 3 F_PJ_below_2 rfl (fun _ => rfl) ?_
  exact Rg.callT F_PJ_below_3 (one_V rM_1_244 (by decide) (by simp) rfl rfl gC_2 rfl) (Nat.le_of_ble_eq_true rfl) (c_PJ_row2 wS b_i hw h2) gX rfl
theorem c_PJ_holds_t {d : Nat}  (h : 0 ≤ f ∧ f ≤ 15) (hv : veW = 1) : Cg true (d + 1) m_PJ_holds [.ref 2, .int (iI f)] (MC s0 s1 handN handD gT gF alE actions alM fiF fiN fiD epN epD goH goN goD plS plP plM plA plBN plBD plLN plLD plR veW veF veP vsF vsN vsD juM juP juTN juTD juO scN scD noF noN noD neF neN neD arP arB arM arU arF arR arL arT arA arS leN leD grN grD arH arLU arGU shN shD stF stN stD rest) (.inl (some (.int (bP (vsF f))))) (MC s0 s1 handN handD gT gF alE actions alM fiF fiN fiD epN epD goH goN goD plS plP plM plA plBN plBD plLN plLD plR veW veF veP vsF vsN vsD juM juP juTN juTD juO scN scD noF noN noD neF neN neD arP arB arM arU arF arR arL arT arA arS leN leD grN grD arH arLU arGU shN shD stF stN stD rest) := by
  refine Cg.of (Nat.le_of_ble_eq_true rfl) ?_
  change Rg _ _ _ _ 0 [(0, .ref 2), (1, .int (iI f))] [] _ _ _
  refine Rg.step 1 F_PJ_holds_0 rfl (fun _ => rfl) ?_
  refine Rg.bip 3 F_PJ_holds_1 rfl rfl ?_
  refine Rg.call 6 F_PJ_holds_3 rfl (one_S (by decide +kernel) rM_1_71 (by decide) (by simp) rfl rfl) (Nat.le_of_ble_eq_true rfl) (Cg.any (c_idx_ok (by omega) (by omega) (by omega))) ?_
  refine Rg.step 7 F_PJ_holds_6 rfl (fun _ => rfl) ?_
  refine Rg.call 10 F_PJ_holds_7 rfl (one_V rM_1_251 (by decide) (by simp) rfl rfl gC_2 rfl) (Nat.le_of_ble_eq_true rfl) (Cg.any (c_PJ_late1 hv)) ?_
  refine Rg.getf 13 F_PJ_holds_10 rfl rF_1_79 gC_29 rfl ?_
  refine Rg.step 14 F_PJ_holds_13 rfl (fun _ => rfl) ?_
  refine Rg.call 17 F_PJ_holds_14 rfl (one_S (by decide +kernel) rM_1_85 (by decide) (by simp) rfl rfl) (Nat.le_of_ble_eq_true rfl) (Cg.any (c_factBit (by omega))) ?_
  refine Rg.andK 18 F_PJ_holds_17 rfl ?_
  refine Rg.ifeqK 25 21 F_PJ_holds_18 rfl rfl (fun h18 => ?_) (fun h18 => ?_)
  · refine Rg.step 26 F_PJ_holds_25 rfl (fun _ => rfl) ?_
    exact Rg.ret0 F_PJ_holds_26 rfl (fun z => h18 f (by omega) (by omega) ⟨z, rfl⟩) rfl
  · refine Rg.step 22 F_PJ_holds_21 rfl (fun _ => rfl) ?_
    refine Rg.step 26 F_PJ_holds_22 rfl (fun _ => rfl) ?_
    exact Rg.ret1 F_PJ_holds_26 rfl (by obtain ⟨i, i1, i2, i3, i4⟩ := h18; subst i4; exact i3) rfl
theorem c_PJ_holds_f {d : Nat}  (h : 0 ≤ f ∧ f ≤ 15) (hv : veW = 0) : Cg true (d + 1) m_PJ_holds [.ref 2, .int (iI f)] (MC s0 s1 handN handD gT gF alE actions alM fiF fiN fiD epN epD goH goN goD plS plP plM plA plBN plBD plLN plLD plR veW veF veP vsF vsN vsD juM juP juTN juTD juO scN scD noF noN noD neF neN neD arP arB arM arU arF arR arL arT arA arS leN leD grN grD arH arLU arGU shN shD stF stN stD rest) (.inl (some (.int (bP (fiF f))))) (MC s0 s1 handN handD gT gF alE actions alM fiF fiN fiD epN epD goH goN goD plS plP plM plA plBN plBD plLN plLD plR veW veF veP vsF vsN vsD juM juP juTN juTD juO scN scD noF noN noD neF neN neD arP arB arM arU arF arR arL arT arA arS leN leD grN grD arH arLU arGU shN shD stF stN stD rest) := by
  refine Cg.of (Nat.le_of_ble_eq_true rfl) ?_
  change Rg _ _ _ _ 0 [(0, .ref 2), (1, .int (iI f))] [] _ _ _
  refine Rg.step 1 F_PJ_holds_0 rfl (fun _ => rfl) ?_
  refine Rg.bip 3 F_PJ_holds_1 rfl rfl ?_
  refine Rg.call 6 F_PJ_holds_3 rfl (one_S (by decide +kernel) rM_1_71 (by decide) (by simp) rfl rfl) (Nat.le_of_ble_eq_true rfl) (Cg.any (c_idx_ok (by omega) (by omega) (by omega))) ?_
  refine Rg.step 7 F_PJ_holds_6 rfl (fun _ => rfl) ?_
  refine Rg.call 10 F_PJ_holds_7 rfl (one_V rM_1_251 (by decide) (by simp) rfl rfl gC_2 rfl) (Nat.le_of_ble_eq_true rfl) (Cg.any (c_PJ_late0 hv)) ?_
  refine Rg.getf 13 F_PJ_holds_10 rfl rF_1_79 gC_8 rfl ?_
  refine Rg.step 14 F_PJ_holds_13 rfl (fun _ => rfl) ?_
  refine Rg.call 17 F_PJ_holds_14 rfl (one_S (by decide +kernel) rM_1_85 (by decide) (by simp) rfl rfl) (Nat.le_of_ble_eq_true rfl) (Cg.any (c_factBit (by omega))) ?_
  refine Rg.andK 18 F_PJ_holds_17 rfl ?_
  refine Rg.ifeqK 25 21 F_PJ_holds_18 rfl rfl (fun h18 => ?_) (fun h18 => ?_)
  · refine Rg.step 26 F_PJ_holds_25 rfl (fun _ => rfl) ?_
    exact Rg.ret0 F_PJ_holds_26 rfl (fun z => h18 f (by omega) (by omega) ⟨z, rfl⟩) rfl
  · refine Rg.step 22 F_PJ_holds_21 rfl (fun _ => rfl) ?_
    refine Rg.step 26 F_PJ_holds_22 rfl (fun _ => rfl) ?_
    exact Rg.ret1 F_PJ_holds_26 rfl (by obtain ⟨i, i1, i2, i3, i4⟩ := h18; subst i4; exact i3) rfl
theorem c_PJ_holds1 {d : Nat} (b_f : -2147483648 ≤ f ∧ f < 2147483648) (h : ¬ (0 ≤ f ∧ f ≤ 15)) : Cg true (d + 1) m_PJ_holds [.ref 2, .int (iI f)] (MC s0 s1 handN handD gT gF alE actions alM fiF fiN fiD epN epD goH goN goD plS plP plM plA plBN plBD plLN plLD plR veW veF veP vsF vsN vsD juM juP juTN juTD juO scN scD noF noN noD neF neN neD arP arB arM arU arF arR arL arT arA arS leN leD grN grD arH arLU arGU shN shD stF stN stD rest) (.inr (MC s0 s1 handN handD gT gF alE actions alM fiF fiN fiD epN epD goH goN goD plS plP plM plA plBN plBD plLN plLD plR veW veF veP vsF vsN vsD juM juP juTN juTD juO scN scD noF noN noD neF neN neD arP arB arM arU arF arR arL arT arA arS leN leD grN grD arH arLU arGU shN shD stF stN stD rest).length) ((MC s0 s1 handN handD gT gF alE actions alM fiF fiN fiD epN epD goH goN goD plS plP plM plA plBN plBD plLN plLD plR veW veF veP vsF vsN vsD juM juP juTN juTD juO scN scD noF noN noD neF neN neD arP arB arM arU arF arR arL arT arA arS leN leD grN grD arH arLU arGU shN shD stF stN stD rest) ++ [.inr (13, [])]) := by
  refine Cg.of (Nat.le_of_ble_eq_true rfl) ?_
  change Rg _ _ _ _ 0 [(0, .ref 2), (1, .int (iI f))] [] _ _ _
  refine Rg.step 1 F_PJ_holds_0 rfl (fun _ => rfl) ?_
  refine Rg.bip 3 F_PJ_holds_1 rfl rfl ?_
  exact Rg.callT F_PJ_holds_3 (one_S (by decide +kernel) rM_1_71 (by decide) (by simp) rfl rfl) (Nat.le_of_ble_eq_true rfl) (c_idx_no (by omega) (by omega) (by omega)) gX rfl
end R83
