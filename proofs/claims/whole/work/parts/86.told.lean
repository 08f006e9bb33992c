/-! The class: its actions are told. -/
noncomputable def RPA (rest : AM) (b : Nat) (nd : Int) (ch : Int) (me : Int → Prop) (nT : Int → Int → Prop) (nF : Int → Int → Prop) (cs : Int) (cT : Int → Int) (cO : Int → Int) (cH : Int → Int) (cN : Int → Int) (cD : Int → Int) (mT : Int → Int → Prop) (mF : Int → Int → Prop) (as : Int) (aT : Int → Int) (aO : Int → Int) (aH : Int → Int) (aN : Int → Int) (aD : Int → Int) (cG : Int → Int → Prop) (sA : Int → Int → Prop) (dO : Int → Int) (dN : Int → Int) (dD : Int → Int) : AM := rest.take (b - 168) ++ (actL b nd ch me nT nF cs cT cO cH cN cD mT mF as aT aO aH aN aD cG sA dO dN dD ++ rest.drop (b - 168 + 25))
section R86
variable {s0 s1 : AC} {rest mem : AM} {ab : Int → Nat} {b : Nat} {φ : Bool}
variable {alS alM plS plP veW veF veP juP arP arB arU arF : Int}
variable {handN handD fiN fiD epN epD goH goN goD plA plBN plBD plLN plLD plR vsN vsD juTN juTD juO scN scD noN noD neN neD arR arL arT arA arS leN leD grN grD arLU arGU shN shD : Int → Int}
variable {stN stD : Int → Int → Int}
variable {stF : Int → Int → Prop}
variable {gT gF fiF plM vsF juM noF neF arM arH : Int → Prop}
variable {alE : Nat}
variable {code amountN amountD momentN momentD epsilonN epsilonD actions steps rows tried triedRows unit point judged fault faultPoint outN outD : Int}
variable {firstN firstD wishes wants wantN wantD needs needTime needOf needHow needN needD changes changeTime changeOf changeHow changeN changeD lastOf lastN lastD stepAction startN startD lengthN lengthD row triedAction triedRow times numN numD oldN oldD toldN toldD pointN pointD leastN leastD greatestN greatestD events : Int → Int}
variable {firstFacts facts oldFacts toldFacts gone now : Int → Prop}
variable {nd ch cs as : Int} {cT cO cH cN cD aT aO aH aN aD dO dN dD : Int → Int} {nT nF mT mF cG sA : Int → Int → Prop} {me : Int → Prop}
variable {nd' ch' cs' as' : Int} {cT' cO' cH' cN' cD' aT' aO' aH' aN' aD' dO' dN' dD' : Int → Int} {nT' nF' mT' mF' cG' sA' : Int → Int → Prop} {me' : Int → Prop}
variable {needs' needTime' needOf' needHow' needN' needD' changes' changeTime' changeOf' changeHow' changeN' changeD' lastOf' lastN' lastD' : Int → Int}
variable {t f n how a : Int} {v : Prop}
theorem actL_no {C : String} {vs : List Value} {i : Nat} : ¬ (actL b nd ch me nT nF cs cT cO cH cN cD mT mF as aT aO aH aN aD cG sA dO dN dD)[i]? = some (.inl (.object C, vs)) := by
  intro h
  have hi : i < 25 := (List.getElem?_eq_some_iff.mp h).1
  unfold actL at h
  have : i = 0 ∨ i = 1 ∨ i = 2 ∨ i = 3 ∨ i = 4 ∨ i = 5 ∨ i = 6 ∨ i = 7 ∨ i = 8 ∨ i = 9 ∨ i = 10 ∨ i = 11 ∨ i = 12 ∨ i = 13 ∨ i = 14 ∨ i = 15 ∨ i = 16 ∨ i = 17 ∨ i = 18 ∨ i = 19 ∨ i = 20 ∨ i = 21 ∨ i = 22 ∨ i = 23 ∨ i = 24 := by omega
  rcases this with this | this | this | this | this | this | this | this | this | this | this | this | this | this | this | this | this | this | this | this | this | this | this | this | this <;> subst this <;> cases h
theorem act_len : (actL b nd ch me nT nF cs cT cO cH cN cD mT mF as aT aO aH aN aD cG sA dO dN dD).length = 25 := rfl
theorem mc_app : (MC s0 s1 handN handD gT gF alE actions alM fiF fiN fiD epN epD goH goN goD plS plP plM plA plBN plBD plLN plLD plR veW veF veP vsF vsN vsD juM juP juTN juTD juO scN scD noF noN noD neF neN neD arP arB arM arU arF arR arL arT arA arS leN leD grN grD arH arLU arGU shN shD stF stN stD rest) = (MC s0 s1 handN handD gT gF alE actions alM fiF fiN fiD epN epD goH goN goD plS plP plM plA plBN plBD plLN plLD plR veW veF veP vsF vsN vsD juM juP juTN juTD juO scN scD noF noN noD neF neN neD arP arB arM arU arF arR arL arT arA arS leN leD grN grD arH arLU arGU shN shD stF stN stD []) ++ rest := by
  unfold MC
  rw [List.append_nil, List.append_assoc]
theorem mc_len : (MC s0 s1 handN handD gT gF alE actions alM fiF fiN fiD epN epD goH goN goD plS plP plM plA plBN plBD plLN plLD plR veW veF veP vsF vsN vsD juM juP juTN juTD juO scN scD noF noN noD neF neN neD arP arB arM arU arF arR arL arT arA arS leN leD grN grD arH arLU arGU shN shD stF stN stD []).length = 168 := by
  unfold MC
  rw [List.append_nil, List.length_append, encC_len, SB_len]
theorem open_at {mem xs : AM} {b : Nat} (hl : xs.length = 25) (h : ∀ i, i < 25 → mem[b + i]? = xs[i]?) : mem = mem.take b ++ (xs ++ mem.drop (b + 25)) := by
  have h0 := h 24 (by omega)
  rw [List.getElem?_eq_getElem (l := xs) (show 24 < xs.length by omega)] at h0
  have hb : b + 24 < mem.length := (List.getElem?_eq_some_iff.mp h0).1
  apply List.ext_getElem?
  intro i
  by_cases h1 : i < b
  · rw [List.getElem?_append_left (by rw [List.length_take]; omega), List.getElem?_take_of_lt h1]
  · rw [List.getElem?_append_right (by rw [List.length_take]; omega), List.length_take, show min b mem.length = b by omega]
    by_cases h2 : i - b < 25
    · rw [List.getElem?_append_left (by omega), ← h (i - b) h2, show b + (i - b) = i by omega]
    · rw [List.getElem?_append_right (by omega), hl, List.getElem?_drop, show b + 25 + (i - b - 25) = i by omega]
theorem at_mc (hC : ActC mem b nd ch me nT nF cs cT cO cH cN cD mT mF as aT aO aH aN aD cG sA dO dN dD) : mem = MA (mem.take b) b nd ch me nT nF cs cT cO cH cN cD mT mF as aT aO aH aN aD cG sA dO dN dD (mem.drop (b + 25)) := open_at rfl hC
theorem tk_app {X r : AM} {b : Nat} (h : X.length = 168) (hb : 168 ≤ b) : (X ++ r).take b = X ++ r.take (b - 168) := by
  rw [List.take_append, h, List.take_of_length_le (by omega)]
theorem dp_app {X r : AM} {b : Nat} (h : X.length = 168) (hb : 168 ≤ b) : (X ++ r).drop (b + 25) = r.drop (b - 168 + 25) := by
  rw [List.drop_append, h, List.drop_of_length_le (by omega), List.nil_append, show b + 25 - 168 = b - 168 + 25 by omega]
theorem rp_mc (hb : 168 ≤ b) : (MC s0 s1 handN handD gT gF alE actions alM fiF fiN fiD epN epD goH goN goD plS plP plM plA plBN plBD plLN plLD plR veW veF veP vsF vsN vsD juM juP juTN juTD juO scN scD noF noN noD neF neN neD arP arB arM arU arF arR arL arT arA arS leN leD grN grD arH arLU arGU shN shD stF stN stD (RPA rest b nd' ch' me' nT' nF' cs' cT' cO' cH' cN' cD' mT' mF' as' aT' aO' aH' aN' aD' cG' sA' dO' dN' dD')) = MA ((MC s0 s1 handN handD gT gF alE actions alM fiF fiN fiD epN epD goH goN goD plS plP plM plA plBN plBD plLN plLD plR veW veF veP vsF vsN vsD juM juP juTN juTD juO scN scD noF noN noD neF neN neD arP arB arM arU arF arR arL arT arA arS leN leD grN grD arH arLU arGU shN shD stF stN stD rest).take b) b nd' ch' me' nT' nF' cs' cT' cO' cH' cN' cD' mT' mF' as' aT' aO' aH' aN' aD' cG' sA' dO' dN' dD' ((MC s0 s1 handN handD gT gF alE actions alM fiF fiN fiD epN epD goH goN goD plS plP plM plA plBN plBD plLN plLD plR veW veF veP vsF vsN vsD juM juP juTN juTD juO scN scD noF noN noD neF neN neD arP arB arM arU arF arR arL arT arA arS leN leD grN grD arH arLU arGU shN shD stF stN stD rest).drop (b + 25)) := by
  unfold MA RPA
  refine mc_app.trans ?_
  rw [mc_app (rest := rest), tk_app mc_len hb, dp_app mc_len hb, List.append_assoc]
theorem call_at {d : Nat} {m : MI} {as9 : List Value} {o : Option Value ⊕ Nat} (hb : 219 ≤ b) (hC : ActC (MC s0 s1 handN handD gT gF alE actions alM fiF fiN fiD epN epD goH goN goD plS plP plM plA plBN plBD plLN plLD plR veW veF veP vsF vsN vsD juM juP juTN juTD juO scN scD noF noN noD neF neN neD arP arB arM arU arF arR arL arT arA arS leN leD grN grD arH arLU arGU shN shD stF stN stD rest) b nd ch me nT nF cs cT cO cH cN cD mT mF as aT aO aH aN aD cG sA dO dN dD) (h : ∀ pre post, pre.length = b → FI pre 3 4 5 2 handN handD → Cg φ d m as9 (MA pre b nd ch me nT nF cs cT cO cH cN cD mT mF as aT aO aH aN aD cG sA dO dN dD post) o (MA pre b nd' ch' me' nT' nF' cs' cT' cO' cH' cN' cD' mT' mF' as' aT' aO' aH' aN' aD' cG' sA' dO' dN' dD' post)) : Cg φ d m as9 (MC s0 s1 handN handD gT gF alE actions alM fiF fiN fiD epN epD goH goN goD plS plP plM plA plBN plBD plLN plLD plR veW veF veP vsF vsN vsD juM juP juTN juTD juO scN scD noF noN noD neF neN neD arP arB arM arU arF arR arL arT arA arS leN leD grN grD arH arLU arGU shN shD stF stN stD rest) o (MC s0 s1 handN handD gT gF alE actions alM fiF fiN fiD epN epD goH goN goD plS plP plM plA plBN plBD plLN plLD plR veW veF veP vsF vsN vsD juM juP juTN juTD juO scN scD noF noN noD neF neN neD arP arB arM arU arF arR arL arT arA arS leN leD grN grD arH arLU arGU shN shD stF stN stD (RPA rest b nd' ch' me' nT' nF' cs' cT' cO' cH' cN' cD' mT' mF' as' aT' aO' aH' aN' aD' cG' sA' dO' dN' dD')) := by
  have hl : b < (MC s0 s1 handN handD gT gF alE actions alM fiF fiN fiD epN epD goH goN goD plS plP plM plA plBN plBD plLN plLD plR veW veF veP vsF vsN vsD juM juP juTN juTD juO scN scD noF noN noD neF neN neD arP arB arM arU arF arR arL arT arA arS leN leD grN grD arH arLU arGU shN shD stF stN stD rest).length := (List.getElem?_eq_some_iff.mp (gA_0 hC)).1
  have key : ∀ {i : Nat} {c : AC}, i < b → (MC s0 s1 handN handD gT gF alE actions alM fiF fiN fiD epN epD goH goN goD plS plP plM plA plBN plBD plLN plLD plR veW veF veP vsF vsN vsD juM juP juTN juTD juO scN scD noF noN noD neF neN neD arP arB arM arU arF arR arL arT arA arS leN leD grN grD arH arLU arGU shN shD stF stN stD rest)[i]? = some c → ((MC s0 s1 handN handD gT gF alE actions alM fiF fiN fiD epN epD goH goN goD plS plP plM plA plBN plBD plLN plLD plR veW veF veP vsF vsN vsD juM juP juTN juTD juO scN scD noF noN noD neF neN neD arP arB arM arU arF arR arL arT arA arS leN leD grN grD arH arLU arGU shN shD stF stN stD rest).take b)[i]? = some c := fun {i c} hi hc => by
    rw [List.getElem?_take_of_lt hi]; exact hc
  have hf : FI ((MC s0 s1 handN handD gT gF alE actions alM fiF fiN fiD epN epD goH goN goD plS plP plM plA plBN plBD plLN plLD plR veW veF veP vsF vsN vsD juM juP juTN juTD juO scN scD noF noN noD neF neN neD arP arB arM arU arF arR arL arT arA arS leN leD grN grD arH arLU arGU shN shD stF stN stD rest).take b) 3 4 5 2 handN handD := by
    obtain ⟨h1, h2, h3, h4⟩ := gF_hand (s0 := s0) (s1 := s1) (rest := rest) (handN := handN) (handD := handD) (gT := gT) (gF := gF) (alE := alE) (alS := actions) (alM := alM) (fiF := fiF) (fiN := fiN) (fiD := fiD) (epN := epN) (epD := epD) (goH := goH) (goN := goN) (goD := goD) (plS := plS) (plP := plP) (plM := plM) (plA := plA) (plBN := plBN) (plBD := plBD) (plLN := plLN) (plLD := plLD) (plR := plR) (veW := veW) (veF := veF) (veP := veP) (vsF := vsF) (vsN := vsN) (vsD := vsD) (juM := juM) (juP := juP) (juTN := juTN) (juTD := juTD) (juO := juO) (scN := scN) (scD := scD) (noF := noF) (noN := noN) (noD := noD) (neF := neF) (neN := neN) (neD := neD) (arP := arP) (arB := arB) (arM := arM) (arU := arU) (arF := arF) (arR := arR) (arL := arL) (arT := arT) (arA := arA) (arS := arS) (leN := leN) (leD := leD) (grN := grN) (grD := grD) (arH := arH) (arLU := arLU) (arGU := arGU) (shN := shN) (shD := shD) (stF := stF) (stN := stN) (stD := stD)
    exact ⟨key (by omega) h1, key (by omega) h2, key (by omega) h3, h4⟩
  have hx := h ((MC s0 s1 handN handD gT gF alE actions alM fiF fiN fiD epN epD goH goN goD plS plP plM plA plBN plBD plLN plLD plR veW veF veP vsF vsN vsD juM juP juTN juTD juO scN scD noF noN noD neF neN neD arP arB arM arU arF arR arL arT arA arS leN leD grN grD arH arLU arGU shN shD stF stN stD rest).take b) ((MC s0 s1 handN handD gT gF alE actions alM fiF fiN fiD epN epD goH goN goD plS plP plM plA plBN plBD plLN plLD plR veW veF veP vsF vsN vsD juM juP juTN juTD juO scN scD noF noN noD neF neN neD arP arB arM arU arF arR arL arT arA arS leN leD grN grD arH arLU arGU shN shD stF stN stD rest).drop (b + 25)) (by rw [List.length_take]; omega) hf
  rw [← at_mc hC, ← rp_mc (by omega)] at hx
  exact hx
theorem rp_out {k j : Nat} {xs : AM} (hl : xs.length = 25) (hk : k + 25 ≤ rest.length) (hj : j < k ∨ k + 25 ≤ j) : (rest.take k ++ (xs ++ rest.drop (k + 25)))[j]? = rest[j]? := by
  rcases hj with hj | hj
  · rw [List.getElem?_append_left (by rw [List.length_take]; omega), List.getElem?_take_of_lt hj]
  · rw [List.getElem?_append_right (by rw [List.length_take]; omega), List.length_take, show min k rest.length = k by omega, List.getElem?_append_right (by omega), hl, List.getElem?_drop, show k + 25 + (j - k - 25) = j by omega]
theorem rp_in {k i : Nat} {xs : AM} (hl : xs.length = 25) (hk : k + 25 ≤ rest.length) (hi : i < 25) : (rest.take k ++ (xs ++ rest.drop (k + 25)))[k + i]? = xs[i]? := by
  rw [List.getElem?_append_right (by rw [List.length_take]; omega), List.length_take, show min k rest.length = k by omega, List.getElem?_append_left (by omega), show k + i - k = i by omega]
theorem acts_put (hO : ActsOK needs needTime needOf needHow needN needD changes changeTime changeOf changeHow changeN changeD lastOf lastN lastD rest alE actions ab) (hD : ∀ x y, 0 ≤ x → x < y → y < actions → ab x + 25 ≤ ab y) (ha : 0 ≤ a ∧ a < actions) (hr : RELA needs' needTime' needOf' needHow' needN' needD' changes' changeTime' changeOf' changeHow' changeN' changeD' lastOf' lastN' lastD' a nd' ch' me' nT' nF' cs' cT' cO' cH' cN' cD' mT' mF' as' aT' aO' aH' aN' aD' cG' sA' dO' dN' dD') (ho : ∀ x, 0 ≤ x → x < actions → ¬ x = a → needs' x = needs x ∧ (∀ k, inN needs x k → needTime' k = needTime k ∧ needOf' k = needOf k ∧ needHow' k = needHow k ∧ needN' k = needN k ∧ needD' k = needD k) ∧ changes' x = changes x ∧ (∀ k, inC changes x k → changeTime' k = changeTime k ∧ changeOf' k = changeOf k ∧ changeHow' k = changeHow k ∧ changeN' k = changeN k ∧ changeD' k = changeD k) ∧ (∀ k, k = 2 * x ∨ k = 2 * x + 1 → lastOf' k = lastOf k ∧ lastN' k = lastN k ∧ lastD' k = lastD k)) : ActsOK needs' needTime' needOf' needHow' needN' needD' changes' changeTime' changeOf' changeHow' changeN' changeD' lastOf' lastN' lastD' (RPA rest (ab a) nd' ch' me' nT' nF' cs' cT' cO' cH' cN' cD' mT' mF' as' aT' aO' aH' aN' aD' cG' sA' dO' dN' dD') alE actions ab ∧ (RPA rest (ab a) nd' ch' me' nT' nF' cs' cT' cO' cH' cN' cD' mT' mF' as' aT' aO' aH' aN' aD' cG' sA' dO' dN' dD').length = rest.length ∧ (RPA rest (ab a) nd' ch' me' nT' nF' cs' cT' cO' cH' cN' cD' mT' mF' as' aT' aO' aH' aN' aD' cG' sA' dO' dN' dD').take 51 = rest.take 51 ∧ (RPA rest (ab a) nd' ch' me' nT' nF' cs' cT' cO' cH' cN' cD' mT' mF' as' aT' aO' aH' aN' aD' cG' sA' dO' dN' dD')[alE - 168]? = rest[alE - 168]? := by
  obtain ⟨⟨a1, vs, a2, a3⟩, a4, nd9, ch9, me9, nT9, nF9, cs9, cT9, cO9, cH9, cN9, cD9, mT9, mF9, as9, aT9, aO9, aH9, aN9, aD9, cG9, sA9, dO9, dN9, dD9, a5, -⟩ := hO a ha.1 ha.2
  have h24 := a5 24 (by omega)
  have hk : ab a - 168 + 25 ≤ rest.length := by
    have h24' : (actL (ab a) nd9 ch9 me9 nT9 nF9 cs9 cT9 cO9 cH9 cN9 cD9 mT9 mF9 as9 aT9 aO9 aH9 aN9 aD9 cG9 sA9 dO9 dN9 dD9)[24]? = some _ := rfl
    rw [h24'] at h24
    have := (List.getElem?_eq_some_iff.mp h24).1
    omega
  have hout : ∀ j, j < ab a - 168 ∨ ab a - 168 + 25 ≤ j → (RPA rest (ab a) nd' ch' me' nT' nF' cs' cT' cO' cH' cN' cD' mT' mF' as' aT' aO' aH' aN' aD' cG' sA' dO' dN' dD')[j]? = rest[j]? := fun j hj => rp_out rfl hk hj
  have hal : alE - 168 < ab a - 168 ∨ ab a - 168 + 25 ≤ alE - 168 := by
    refine Classical.byContradiction (fun z => ?_)
    have hz := a5 (alE - 168 - (ab a - 168)) (by omega)
    rw [show ab a - 168 + (alE - 168 - (ab a - 168)) = alE - 168 by omega, a2] at hz
    exact actL_no hz.symm
  refine ⟨fun x x1 x2 => ?_, ?_, ?_, hout _ hal⟩
  · obtain ⟨⟨b1, us, b2, b3⟩, b4, b5⟩ := hO x x1 x2
    refine ⟨⟨b1, us, by rw [hout _ hal]; exact b2, b3⟩, b4, ?_⟩
    by_cases e : x = a
    · subst e
      exact ⟨nd', ch', me', nT', nF', cs', cT', cO', cH', cN', cD', mT', mF', as', aT', aO', aH', aN', aD', cG', sA', dO', dN', dD', fun i hi => rp_in rfl hk hi, hr⟩
    · obtain ⟨nd8, ch8, me8, nT8, nF8, cs8, cT8, cO8, cH8, cN8, cD8, mT8, mF8, as8, aT8, aO8, aH8, aN8, aD8, cG8, sA8, dO8, dN8, dD8, c1, c2⟩ := b5
      obtain ⟨q1, q2, q3, q4, q5⟩ := ho x x1 x2 e
      refine ⟨nd8, ch8, me8, nT8, nF8, cs8, cT8, cO8, cH8, cN8, cD8, mT8, mF8, as8, aT8, aO8, aH8, aN8, aD8, cG8, sA8, dO8, dN8, dD8, fun i hi => ?_, rel_congr c2 q1 q2 q3 q4 q5⟩
      rw [hout, c1 i hi]
      by_cases h : x < a
      · have := hD x a x1 h ha.2
        exact Or.inl (by omega)
      · have := hD a x ha.1 (by omega) x2
        exact Or.inr (by omega)
  · unfold RPA
    rw [List.length_append, List.length_append, List.length_take, List.length_drop, act_len]
    omega
  · apply List.ext_getElem?
    intro j
    by_cases hj : j < 51
    · rw [List.getElem?_take_of_lt hj, List.getElem?_take_of_lt hj]
      exact hout j (Or.inl (by omega))
    · rw [List.getElem?_take, List.getElem?_take, if_neg hj, if_neg hj]
theorem oth_need {N D : Int} (wn : ∀ k, 0 ≤ needs k ∧ needs k ≤ 8) (hn : ¬ needs a = 8) {x : Int} (hx : ¬ x = a) : (up1 needs a (needs a + 1)) x = needs x ∧ (∀ k, inN needs x k → (up1 needTime (8 * a + needs a) t) k = needTime k ∧ (up1 needOf (8 * a + needs a) f) k = needOf k ∧ (up1 needHow (8 * a + needs a) how) k = needHow k ∧ (up1 needN (8 * a + needs a) N) k = needN k ∧ (up1 needD (8 * a + needs a) D) k = needD k) ∧ changes x = changes x ∧ (∀ k, inC changes x k → changeTime k = changeTime k ∧ changeOf k = changeOf k ∧ changeHow k = changeHow k ∧ changeN k = changeN k ∧ changeD k = changeD k) ∧ (∀ k, k = 2 * x ∨ k = 2 * x + 1 → lastOf k = lastOf k ∧ lastN k = lastN k ∧ lastD k = lastD k) := by
  have w1 := wn x
  have w2 := wn a
  refine ⟨up1_ne _ _ hx, fun k hk => ?_, rfl, fun k _ => ⟨rfl, rfl, rfl, rfl, rfl⟩, fun k _ => ⟨rfl, rfl, rfl⟩⟩
  have e : ¬ k = 8 * a + needs a := by have := hk.1; have := hk.2; omega
  rw [up1_ne _ _ e, up1_ne _ _ e, up1_ne _ _ e, up1_ne _ _ e, up1_ne _ _ e]
  exact ⟨rfl, rfl, rfl, rfl, rfl⟩
theorem oth_chg {N D : Int} (wn : ∀ k, 0 ≤ changes k ∧ changes k ≤ 6) (hn : ¬ changes a = 6) {x : Int} (hx : ¬ x = a) : needs x = needs x ∧ (∀ k, inN needs x k → needTime k = needTime k ∧ needOf k = needOf k ∧ needHow k = needHow k ∧ needN k = needN k ∧ needD k = needD k) ∧ (up1 changes a (changes a + 1)) x = changes x ∧ (∀ k, inC changes x k → (up1 changeTime (6 * a + changes a) t) k = changeTime k ∧ (up1 changeOf (6 * a + changes a) f) k = changeOf k ∧ (up1 changeHow (6 * a + changes a) how) k = changeHow k ∧ (up1 changeN (6 * a + changes a) N) k = changeN k ∧ (up1 changeD (6 * a + changes a) D) k = changeD k) ∧ (∀ k, k = 2 * x ∨ k = 2 * x + 1 → lastOf k = lastOf k ∧ lastN k = lastN k ∧ lastD k = lastD k) := by
  have w1 := wn x
  have w2 := wn a
  refine ⟨rfl, fun k _ => ⟨rfl, rfl, rfl, rfl, rfl⟩, up1_ne _ _ hx, fun k hk => ?_, fun k _ => ⟨rfl, rfl, rfl⟩⟩
  have e : ¬ k = 6 * a + changes a := by have := hk.1; have := hk.2; omega
  rw [up1_ne _ _ e, up1_ne _ _ e, up1_ne _ _ e, up1_ne _ _ e, up1_ne _ _ e]
  exact ⟨rfl, rfl, rfl, rfl, rfl⟩
theorem oth_last {N D : Int} (ht : 0 ≤ t ∧ t ≤ 1) {x : Int} (hx : ¬ x = a) : needs x = needs x ∧ (∀ k, inN needs x k → needTime k = needTime k ∧ needOf k = needOf k ∧ needHow k = needHow k ∧ needN k = needN k ∧ needD k = needD k) ∧ changes x = changes x ∧ (∀ k, inC changes x k → changeTime k = changeTime k ∧ changeOf k = changeOf k ∧ changeHow k = changeHow k ∧ changeN k = changeN k ∧ changeD k = changeD k) ∧ (∀ k, k = 2 * x ∨ k = 2 * x + 1 → (up1 lastOf (2 * a + t) f) k = lastOf k ∧ (up1 lastN (2 * a + t) N) k = lastN k ∧ (up1 lastD (2 * a + t) D) k = lastD k) := by
  refine ⟨rfl, fun k _ => ⟨rfl, rfl, rfl, rfl, rfl⟩, rfl, fun k _ => ⟨rfl, rfl, rfl, rfl, rfl⟩, fun k hk => ?_⟩
  have e : ¬ k = 2 * a + t := by omega
  rw [up1_ne _ _ e, up1_ne _ _ e, up1_ne _ _ e]
  exact ⟨rfl, rfl, rfl⟩
theorem um {F : Int → Int → Prop} {t f s i : Int} : up1 F t (fun i => F t i ∨ i = f) s i ↔ F s i ∨ (t = s ∧ f = i) := by
  by_cases e : s = t
  · rw [e, up1_eq]
    exact or_congr Iff.rfl (by omega)
  · rw [up1_ne _ _ e]
    exact ⟨Or.inl, fun z => z.elim id (fun y => absurd y.1.symm e)⟩
theorem c_cnc_ok {d : Nat}  (hC : (ActC mem b nd ch me nT nF cs cT cO cH cN cD mT mF as aT aO aH aN aD cG sA dO dN dD)) (h6 : 0 ≤ ch ∧ ch ≤ 6) (ht : 0 ≤ t ∧ t ≤ 2) (hf : 0 ≤ f ∧ f < 24) (hn : ¬ ch = 6) (hg : ¬ cG t f) : Cg true (d + 1) m_PJ_checkNewChange [.ref b, .int (iI t), .int (mk (fun i => i = f))] mem (.inl none) mem := by
  refine Cg.of (Nat.le_of_ble_eq_true rfl) ?_
  change Rg _ _ _ _ 0 [(0, .ref b), (1, .int (iI t)), (2, .int (mk (fun i => i = f)))] [] _ _ _
  refine Rg.step 1 F_PJ_checkNewChange_0 rfl (fun _ => rfl) ?_
  refine Rg.getf 4 F_PJ_checkNewChange_1 rfl rF_1_289 (gA_0 hC) rfl ?_
  refine Rg.bip 6 F_PJ_checkNewChange_4 rfl rfl ?_
  refine Rg.call 9 F_PJ_checkNewChange_6 rfl (one_S (by decide +kernel) rM_1_115 (by decide) (by simp) rfl rfl) (Nat.le_of_ble_eq_true rfl) (Cg.any (c_room_ok (by omega) (by omega) (by omega))) ?_
  refine Rg.step 10 F_PJ_checkNewChange_9 rfl (fun _ => rfl) ?_
  refine Rg.getf 13 F_PJ_checkNewChange_10 rfl rF_1_292 (gA_0 hC) rfl ?_
  refine Rg.step 14 F_PJ_checkNewChange_13 rfl (fun _ => rfl) ?_
  refine Rg.kld 15 F_PJ_checkNewChange_14 rfl (gA_19 hC) (by omega) (by decide) ?_
  refine Rg.step 16 F_PJ_checkNewChange_15 rfl (fun _ => rfl) ?_
  refine Rg.andK 17 F_PJ_checkNewChange_16 rfl ?_
  refine Rg.ifeqK 28 20 F_PJ_checkNewChange_17 rfl rfl (fun _ => ?_) (fun h17 => False.elim (by obtain ⟨i, _, _, z1, z2⟩ := h17; exact hg (z2 ▸ z1)))
  exact Rg.retV F_PJ_checkNewChange_28 rfl rfl
theorem c_cnc_n6 {d : Nat} (hC : (ActC mem b nd ch me nT nF cs cT cO cH cN cD mT mF as aT aO aH aN aD cG sA dO dN dD)) (h6 : 0 ≤ ch ∧ ch ≤ 6) (ht : 0 ≤ t ∧ t ≤ 2) (hf : 0 ≤ f ∧ f < 24) (hn : ch = 6) : Cg true (d + 1) m_PJ_checkNewChange [.ref b, .int (iI t), .int (mk (fun i => i = f))] mem (.inr mem.length) (mem ++ [.inr (14, [])]) := by
  refine Cg.of (Nat.le_of_ble_eq_true rfl) ?_
  change Rg _ _ _ _ 0 [(0, .ref b), (1, .int (iI t)), (2, .int (mk (fun i => i = f)))] [] _ _ _
  refine Rg.step 1 F_PJ_checkNewChange_0 rfl (fun _ => rfl) ?_
  refine Rg.getf 4 F_PJ_checkNewChange_1 rfl rF_1_289 (gA_0 hC) rfl ?_
  refine Rg.bip 6 F_PJ_checkNewChange_4 rfl rfl ?_
  exact Rg.callT F_PJ_checkNewChange_6 (one_S (by decide +kernel) rM_1_115 (by decide) (by simp) rfl rfl) (Nat.le_of_ble_eq_true rfl) (c_room_no (by omega) (by omega) (by omega)) gX rfl
theorem c_cnc_nG {d : Nat} (hC : (ActC mem b nd ch me nT nF cs cT cO cH cN cD mT mF as aT aO aH aN aD cG sA dO dN dD)) (h6 : 0 ≤ ch ∧ ch ≤ 6) (ht : 0 ≤ t ∧ t ≤ 2) (hf : 0 ≤ f ∧ f < 24) (hn : ¬ ch = 6) (hg : cG t f) : Cg true (d + 1) m_PJ_checkNewChange [.ref b, .int (iI t), .int (mk (fun i => i = f))] mem (.inr mem.length) (mem ++ [.inr (14, [])]) := by
  refine Cg.of (Nat.le_of_ble_eq_true rfl) ?_
  change Rg _ _ _ _ 0 [(0, .ref b), (1, .int (iI t)), (2, .int (mk (fun i => i = f)))] [] _ _ _
  refine Rg.step 1 F_PJ_checkNewChange_0 rfl (fun _ => rfl) ?_
  refine Rg.getf 4 F_PJ_checkNewChange_1 rfl rF_1_289 (gA_0 hC) rfl ?_
  refine Rg.bip 6 F_PJ_checkNewChange_4 rfl rfl ?_
  refine Rg.call 9 F_PJ_checkNewChange_6 rfl (one_S (by decide +kernel) rM_1_115 (by decide) (by simp) rfl rfl) (Nat.le_of_ble_eq_true rfl) (Cg.any (c_room_ok (by omega) (by omega) (by omega))) ?_
  refine Rg.step 10 F_PJ_checkNewChange_9 rfl (fun _ => rfl) ?_
  refine Rg.getf 13 F_PJ_checkNewChange_10 rfl rF_1_292 (gA_0 hC) rfl ?_
  refine Rg.step 14 F_PJ_checkNewChange_13 rfl (fun _ => rfl) ?_
  refine Rg.kld 15 F_PJ_checkNewChange_14 rfl (gA_19 hC) (by omega) (by decide) ?_
  refine Rg.step 16 F_PJ_checkNewChange_15 rfl (fun _ => rfl) ?_
  refine Rg.andK 17 F_PJ_checkNewChange_16 rfl ?_
  refine Rg.ifeqK 28 20 F_PJ_checkNewChange_17 rfl rfl (fun h17 => False.elim (h17 f hf.1 hf.2 ⟨hg, rfl⟩)) (fun _ => ?_)
  exact Rg.thr F_PJ_checkNewChange_20 F_PJ_checkNewChange_23 F_PJ_checkNewChange_24 F_PJ_checkNewChange_27 rC_1_196 rfl (by decide) rE_1_198 rfl rfl (Nat.le_of_ble_eq_true rfl)
theorem c_cnc_no {d : Nat} (hC : (ActC mem b nd ch me nT nF cs cT cO cH cN cD mT mF as aT aO aH aN aD cG sA dO dN dD)) (h6 : 0 ≤ ch ∧ ch ≤ 6) (ht : 0 ≤ t ∧ t ≤ 2) (hf : 0 ≤ f ∧ f < 24) (h : ch = 6 ∨ cG t f) : Cg true (d + 1) m_PJ_checkNewChange [.ref b, .int (iI t), .int (mk (fun i => i = f))] mem (.inr mem.length) (mem ++ [.inr (14, [])]) := by
  by_cases hn : ch = 6
  · exact c_cnc_n6 hC h6 ht hf hn
  · exact c_cnc_nG hC h6 ht hf hn (h.resolve_left hn)
theorem r_PJ_need_t {d : Nat}  (hO : ActsOK needs needTime needOf needHow needN needD changes changeTime changeOf changeHow changeN changeD lastOf lastN lastD rest alE actions ab) (wA : 0 ≤ actions ∧ actions ≤ 12) (ha : 0 ≤ a ∧ a < actions) (hC : (ActC (MC s0 s1 handN handD gT gF alE actions alM fiF fiN fiD epN epD goH goN goD plS plP plM plA plBN plBD plLN plLD plR veW veF veP vsF vsN vsD juM juP juTN juTD juO scN scD noF noN noD neF neN neD arP arB arM arU arF arR arL arT arA arS leN leD grN grD arH arLU arGU shN shD stF stN stD rest) (ab a) nd ch me nT nF cs cT cO cH cN cD mT mF as aT aO aH aN aD cG sA dO dN dD)) (hb : 219 ≤ ab a) (hn : 0 ≤ nd ∧ nd < 8) (ht : 0 ≤ t ∧ t ≤ 2) (hf : 0 ≤ f ∧ f ≤ 15) (hv : v) : Cg false (d + 3) m_PJ_need [.ref 2, .int (iI a), .int (iI t), .int (iI f), .int (bP v)] (MC s0 s1 handN handD gT gF alE actions alM fiF fiN fiD epN epD goH goN goD plS plP plM plA plBN plBD plLN plLD plR veW veF veP vsF vsN vsD juM juP juTN juTD juO scN scD noF noN noD neF neN neD arP arB arM arU arF arR arL arT arA arS leN leD grN grD arH arLU arGU shN shD stF stN stD rest) (.inl none) (MC s0 s1 handN handD gT gF alE actions alM fiF fiN fiD epN epD goH goN goD plS plP plM plA plBN plBD plLN plLD plR veW veF veP vsF vsN vsD juM juP juTN juTD juO scN scD noF noN noD neF neN neD arP arB arM arU arF arR arL arT arA arS leN leD grN grD arH arLU arGU shN shD stF stN stD (RPA rest (ab a) (nd + 1) ch me (up1 nT t (fun i => nT t i ∨ i = f)) nF cs cT cO cH cN cD mT mF as aT aO aH aN aD cG (up1 sA t (fun i => sA t i ∨ i = f)) dO dN dD)) := by
  have hx : Cg false (d + 2) m_Action_needFact [.ref (ab a), .int (iI t), .int (iI f), .int (bP v)] (MC s0 s1 handN handD gT gF alE actions alM fiF fiN fiD epN epD goH goN goD plS plP plM plA plBN plBD plLN plLD plR veW veF veP vsF vsN vsD juM juP juTN juTD juO scN scD noF noN noD neF neN neD arP arB arM arU arF arR arL arT arA arS leN leD grN grD arH arLU arGU shN shD stF stN stD rest) (.inl none) (MC s0 s1 handN handD gT gF alE actions alM fiF fiN fiD epN epD goH goN goD plS plP plM plA plBN plBD plLN plLD plR veW veF veP vsF vsN vsD juM juP juTN juTD juO scN scD noF noN noD neF neN neD arP arB arM arU arF arR arL arT arA arS leN leD grN grD arH arLU arGU shN shD stF stN stD (RPA rest (ab a) (nd + 1) ch me (up1 nT t (fun i => nT t i ∨ i = f)) nF cs cT cO cH cN cD mT mF as aT aO aH aN aD cG (up1 sA t (fun i => sA t i ∨ i = f)) dO dN dD)) := call_at hb hC (fun pre post z1 z2 => c_Ac_need_t (by omega) z1 ht hf hv)
  refine Cg.of (Nat.le_of_ble_eq_true rfl) ?_
  change Rg _ _ _ _ 0 [(0, .ref 2), (1, .int (iI a)), (2, .int (iI t)), (3, .int (iI f)), (4, .int (bP v))] [] _ _ _
  refine Rg.step 1 F_PJ_need_0 rfl (fun _ => rfl) ?_
  refine Rg.step 2 F_PJ_need_1 rfl (fun _ => rfl) ?_
  refine Rg.getf 5 F_PJ_need_2 rfl rF_1_21 gC_2 rfl ?_
  refine Rg.getf 8 F_PJ_need_5 rfl rF_1_105 gC_6 rfl ?_
  refine Rg.call 11 F_PJ_need_8 rfl (one_V rM_1_109 (by decide) (by simp) rfl rfl gC_7 rfl) (Nat.le_of_ble_eq_true rfl) (Cg.any c_list_size) ?_
  refine Rg.call 14 F_PJ_need_11 rfl (one_S (by decide +kernel) rM_1_71 (by decide) (by simp) rfl rfl) (Nat.le_of_ble_eq_true rfl) (Cg.any (c_idx_ok (by omega) (by omega) (by omega))) ?_
  refine Rg.step 15 F_PJ_need_14 rfl (fun _ => rfl) ?_
  refine Rg.bip 17 F_PJ_need_15 rfl rfl ?_
  refine Rg.call 20 F_PJ_need_17 rfl (one_S (by decide +kernel) rM_1_71 (by decide) (by simp) rfl rfl) (Nat.le_of_ble_eq_true rfl) (Cg.any (c_idx_ok (by omega) (by omega) (by omega))) ?_
  refine Rg.step 21 F_PJ_need_20 rfl (fun _ => rfl) ?_
  refine Rg.step 22 F_PJ_need_21 rfl (fun _ => rfl) ?_
  refine Rg.step 23 F_PJ_need_22 rfl (fun _ => rfl) ?_
  refine Rg.call 26 F_PJ_need_23 rfl (one_S (by decide +kernel) rM_1_92 (by decide) (by simp) rfl rfl) (Nat.le_of_ble_eq_true rfl) (Cg.any (c_chk_ok (by omega) (by omega) (by omega) (by omega))) ?_
  refine Rg.step 27 F_PJ_need_26 rfl (fun _ => rfl) ?_
  refine Rg.getf 30 F_PJ_need_27 rfl rF_1_21 gC_2 rfl ?_
  refine Rg.getf 33 F_PJ_need_30 rfl rF_1_105 gC_6 rfl ?_
  refine Rg.step 34 F_PJ_need_33 rfl (fun _ => rfl) ?_
  refine Rg.call 37 F_PJ_need_34 rfl (one_V rM_1_125 (by decide) (by simp) rfl rfl gC_7 rfl) (Nat.le_of_ble_eq_true rfl) (Cg.any (c_list_get hO wA ha.1 ha.2)) ?_
  refine Rg.cast 40 F_PJ_need_37 rfl rC_1_118 (gA_0 hC) ?_
  refine Rg.step 42 F_PJ_need_40 rfl (fun _ => rfl) ?_
  refine Rg.step 44 F_PJ_need_42 rfl (fun _ => rfl) ?_
  refine Rg.getf 47 F_PJ_need_44 rfl rF_1_129 (gA_0 hC) rfl ?_
  refine Rg.bip 49 F_PJ_need_47 rfl rfl ?_
  refine Rg.call 52 F_PJ_need_49 rfl (one_S (by decide +kernel) rM_1_115 (by decide) (by simp) rfl rfl) (Nat.le_of_ble_eq_true rfl) (Cg.any (c_room_ok (by omega) (by omega) (by omega))) ?_
  refine Rg.step 54 F_PJ_need_52 rfl (fun _ => rfl) ?_
  refine Rg.step 55 F_PJ_need_54 rfl (fun _ => rfl) ?_
  refine Rg.step 56 F_PJ_need_55 rfl (fun _ => rfl) ?_
  refine Rg.step 58 F_PJ_need_56 rfl (fun _ => rfl) ?_
  refine Rg.call 61 F_PJ_need_58 rfl (one_V rM_1_132 (by decide) (by simp) rfl rfl (gA_0 hC) rfl) (Nat.le_of_ble_eq_true rfl) hx ?_
  exact Rg.retV F_PJ_need_61 rfl rfl
theorem r_PJ_need_f {d : Nat}  (hO : ActsOK needs needTime needOf needHow needN needD changes changeTime changeOf changeHow changeN changeD lastOf lastN lastD rest alE actions ab) (wA : 0 ≤ actions ∧ actions ≤ 12) (ha : 0 ≤ a ∧ a < actions) (hC : (ActC (MC s0 s1 handN handD gT gF alE actions alM fiF fiN fiD epN epD goH goN goD plS plP plM plA plBN plBD plLN plLD plR veW veF veP vsF vsN vsD juM juP juTN juTD juO scN scD noF noN noD neF neN neD arP arB arM arU arF arR arL arT arA arS leN leD grN grD arH arLU arGU shN shD stF stN stD rest) (ab a) nd ch me nT nF cs cT cO cH cN cD mT mF as aT aO aH aN aD cG sA dO dN dD)) (hb : 219 ≤ ab a) (hn : 0 ≤ nd ∧ nd < 8) (ht : 0 ≤ t ∧ t ≤ 2) (hf : 0 ≤ f ∧ f ≤ 15) (hv : ¬ v) : Cg false (d + 3) m_PJ_need [.ref 2, .int (iI a), .int (iI t), .int (iI f), .int (bP v)] (MC s0 s1 handN handD gT gF alE actions alM fiF fiN fiD epN epD goH goN goD plS plP plM plA plBN plBD plLN plLD plR veW veF veP vsF vsN vsD juM juP juTN juTD juO scN scD noF noN noD neF neN neD arP arB arM arU arF arR arL arT arA arS leN leD grN grD arH arLU arGU shN shD stF stN stD rest) (.inl none) (MC s0 s1 handN handD gT gF alE actions alM fiF fiN fiD epN epD goH goN goD plS plP plM plA plBN plBD plLN plLD plR veW veF veP vsF vsN vsD juM juP juTN juTD juO scN scD noF noN noD neF neN neD arP arB arM arU arF arR arL arT arA arS leN leD grN grD arH arLU arGU shN shD stF stN stD (RPA rest (ab a) (nd + 1) ch me nT (up1 nF t (fun i => nF t i ∨ i = f)) cs cT cO cH cN cD mT mF as aT aO aH aN aD cG (up1 sA t (fun i => sA t i ∨ i = f)) dO dN dD)) := by
  have hx : Cg false (d + 2) m_Action_needFact [.ref (ab a), .int (iI t), .int (iI f), .int (bP v)] (MC s0 s1 handN handD gT gF alE actions alM fiF fiN fiD epN epD goH goN goD plS plP plM plA plBN plBD plLN plLD plR veW veF veP vsF vsN vsD juM juP juTN juTD juO scN scD noF noN noD neF neN neD arP arB arM arU arF arR arL arT arA arS leN leD grN grD arH arLU arGU shN shD stF stN stD rest) (.inl none) (MC s0 s1 handN handD gT gF alE actions alM fiF fiN fiD epN epD goH goN goD plS plP plM plA plBN plBD plLN plLD plR veW veF veP vsF vsN vsD juM juP juTN juTD juO scN scD noF noN noD neF neN neD arP arB arM arU arF arR arL arT arA arS leN leD grN grD arH arLU arGU shN shD stF stN stD (RPA rest (ab a) (nd + 1) ch me nT (up1 nF t (fun i => nF t i ∨ i = f)) cs cT cO cH cN cD mT mF as aT aO aH aN aD cG (up1 sA t (fun i => sA t i ∨ i = f)) dO dN dD)) := call_at hb hC (fun pre post z1 z2 => c_Ac_need_f (by omega) z1 ht hf hv)
  refine Cg.of (Nat.le_of_ble_eq_true rfl) ?_
  change Rg _ _ _ _ 0 [(0, .ref 2), (1, .int (iI a)), (2, .int (iI t)), (3, .int (iI f)), (4, .int (bP v))] [] _ _ _
  refine Rg.step 1 F_PJ_need_0 rfl (fun _ => rfl) ?_
  refine Rg.step 2 F_PJ_need_1 rfl (fun _ => rfl) ?_
  refine Rg.getf 5 F_PJ_need_2 rfl rF_1_21 gC_2 rfl ?_
  refine Rg.getf 8 F_PJ_need_5 rfl rF_1_105 gC_6 rfl ?_
  refine Rg.call 11 F_PJ_need_8 rfl (one_V rM_1_109 (by decide) (by simp) rfl rfl gC_7 rfl) (Nat.le_of_ble_eq_true rfl) (Cg.any c_list_size) ?_
  refine Rg.call 14 F_PJ_need_11 rfl (one_S (by decide +kernel) rM_1_71 (by decide) (by simp) rfl rfl) (Nat.le_of_ble_eq_true rfl) (Cg.any (c_idx_ok (by omega) (by omega) (by omega))) ?_
  refine Rg.step 15 F_PJ_need_14 rfl (fun _ => rfl) ?_
  refine Rg.bip 17 F_PJ_need_15 rfl rfl ?_
  refine Rg.call 20 F_PJ_need_17 rfl (one_S (by decide +kernel) rM_1_71 (by decide) (by simp) rfl rfl) (Nat.le_of_ble_eq_true rfl) (Cg.any (c_idx_ok (by omega) (by omega) (by omega))) ?_
  refine Rg.step 21 F_PJ_need_20 rfl (fun _ => rfl) ?_
  refine Rg.step 22 F_PJ_need_21 rfl (fun _ => rfl) ?_
  refine Rg.step 23 F_PJ_need_22 rfl (fun _ => rfl) ?_
  refine Rg.call 26 F_PJ_need_23 rfl (one_S (by decide +kernel) rM_1_92 (by decide) (by simp) rfl rfl) (Nat.le_of_ble_eq_true rfl) (Cg.any (c_chk_ok (by omega) (by omega) (by omega) (by omega))) ?_
  refine Rg.step 27 F_PJ_need_26 rfl (fun _ => rfl) ?_
  refine Rg.getf 30 F_PJ_need_27 rfl rF_1_21 gC_2 rfl ?_
  refine Rg.getf 33 F_PJ_need_30 rfl rF_1_105 gC_6 rfl ?_
  refine Rg.step 34 F_PJ_need_33 rfl (fun _ => rfl) ?_
  refine Rg.call 37 F_PJ_need_34 rfl (one_V rM_1_125 (by decide) (by simp) rfl rfl gC_7 rfl) (Nat.le_of_ble_eq_true rfl) (Cg.any (c_list_get hO wA ha.1 ha.2)) ?_
  refine Rg.cast 40 F_PJ_need_37 rfl rC_1_118 (gA_0 hC) ?_
  refine Rg.step 42 F_PJ_need_40 rfl (fun _ => rfl) ?_
  refine Rg.step 44 F_PJ_need_42 rfl (fun _ => rfl) ?_
  refine Rg.getf 47 F_PJ_need_44 rfl rF_1_129 (gA_0 hC) rfl ?_
  refine Rg.bip 49 F_PJ_need_47 rfl rfl ?_
  refine Rg.call 52 F_PJ_need_49 rfl (one_S (by decide +kernel) rM_1_115 (by decide) (by simp) rfl rfl) (Nat.le_of_ble_eq_true rfl) (Cg.any (c_room_ok (by omega) (by omega) (by omega))) ?_
  refine Rg.step 54 F_PJ_need_52 rfl (fun _ => rfl) ?_
  refine Rg.step 55 F_PJ_need_54 rfl (fun _ => rfl) ?_
  refine Rg.step 56 F_PJ_need_55 rfl (fun _ => rfl) ?_
  refine Rg.step 58 F_PJ_need_56 rfl (fun _ => rfl) ?_
  refine Rg.call 61 F_PJ_need_58 rfl (one_V rM_1_132 (by decide) (by simp) rfl rfl (gA_0 hC) rfl) (Nat.le_of_ble_eq_true rfl) hx ?_
  exact Rg.retV F_PJ_need_61 rfl rfl
theorem r_PJ_compare {d : Nat}  (hO : ActsOK needs needTime needOf needHow needN needD changes changeTime changeOf changeHow changeN changeD lastOf lastN lastD rest alE actions ab) (wA : 0 ≤ actions ∧ actions ≤ 12) (ha : 0 ≤ a ∧ a < actions) (hC : (ActC (MC s0 s1 handN handD gT gF alE actions alM fiF fiN fiD epN epD goH goN goD plS plP plM plA plBN plBD plLN plLD plR veW veF veP vsF vsN vsD juM juP juTN juTD juO scN scD noF noN noD neF neN neD arP arB arM arU arF arR arL arT arA arS leN leD grN grD arH arLU arGU shN shD stF stN stD rest) (ab a) nd ch me nT nF cs cT cO cH cN cD mT mF as aT aO aH aN aD cG sA dO dN dD)) (hb : 219 ≤ ab a) (hn : 0 ≤ nd ∧ nd < 8) (hs : 0 ≤ cs ∧ cs < 8) (ht : 0 ≤ t ∧ t ≤ 2) (hf : 0 ≤ f ∧ f ≤ 7) (hh : 0 ≤ how ∧ how ≤ 4) : Cg false (d + 3) m_PJ_compare [.ref 2, .int (iI a), .int (iI t), .int (iI f), .int (iI how)] (MC s0 s1 handN handD gT gF alE actions alM fiF fiN fiD epN epD goH goN goD plS plP plM plA plBN plBD plLN plLD plR veW veF veP vsF vsN vsD juM juP juTN juTD juO scN scD noF noN noD neF neN neD arP arB arM arU arF arR arL arT arA arS leN leD grN grD arH arLU arGU shN shD stF stN stD rest) (.inl none) (MC s0 s1 handN handD gT gF alE actions alM fiF fiN fiD epN epD goH goN goD plS plP plM plA plBN plBD plLN plLD plR veW veF veP vsF vsN vsD juM juP juTN juTD juO scN scD noF noN noD neF neN neD arP arB arM arU arF arR arL arT arA arS leN leD grN grD arH arLU arGU shN shD stF stN stD (RPA rest (ab a) (nd + 1) ch me nT nF (cs + 1) (up1 cT cs t) (up1 cO cs f) (up1 cH cs how) (up1 cN cs (handN 0)) (up1 cD cs (handD 0)) mT mF as aT aO aH aN aD cG (up1 sA t (fun i => sA t i ∨ i = 16 + f)) dO dN dD)) := by
  have hx : Cg false (d + 2) m_Action_needNumber [.ref (ab a), .int (iI t), .int (iI f), .int (iI how), .ref 3] (MC s0 s1 handN handD gT gF alE actions alM fiF fiN fiD epN epD goH goN goD plS plP plM plA plBN plBD plLN plLD plR veW veF veP vsF vsN vsD juM juP juTN juTD juO scN scD noF noN noD neF neN neD arP arB arM arU arF arR arL arT arA arS leN leD grN grD arH arLU arGU shN shD stF stN stD rest) (.inl none) (MC s0 s1 handN handD gT gF alE actions alM fiF fiN fiD epN epD goH goN goD plS plP plM plA plBN plBD plLN plLD plR veW veF veP vsF vsN vsD juM juP juTN juTD juO scN scD noF noN noD neF neN neD arP arB arM arU arF arR arL arT arA arS leN leD grN grD arH arLU arGU shN shD stF stN stD (RPA rest (ab a) (nd + 1) ch me nT nF (cs + 1) (up1 cT cs t) (up1 cO cs f) (up1 cH cs how) (up1 cN cs (handN 0)) (up1 cD cs (handD 0)) mT mF as aT aO aH aN aD cG (up1 sA t (fun i => sA t i ∨ i = 16 + f)) dO dN dD)) := call_at hb hC (fun pre post z1 z2 => c_Ac_compare (by omega) z1 z2 hs ht hf)
  refine Cg.of (Nat.le_of_ble_eq_true rfl) ?_
  change Rg _ _ _ _ 0 [(0, .ref 2), (1, .int (iI a)), (2, .int (iI t)), (3, .int (iI f)), (4, .int (iI how))] [] _ _ _
  refine Rg.step 1 F_PJ_compare_0 rfl (fun _ => rfl) ?_
  refine Rg.step 2 F_PJ_compare_1 rfl (fun _ => rfl) ?_
  refine Rg.getf 5 F_PJ_compare_2 rfl rF_1_21 gC_2 rfl ?_
  refine Rg.getf 8 F_PJ_compare_5 rfl rF_1_105 gC_6 rfl ?_
  refine Rg.call 11 F_PJ_compare_8 rfl (one_V rM_1_109 (by decide) (by simp) rfl rfl gC_7 rfl) (Nat.le_of_ble_eq_true rfl) (Cg.any c_list_size) ?_
  refine Rg.call 14 F_PJ_compare_11 rfl (one_S (by decide +kernel) rM_1_71 (by decide) (by simp) rfl rfl) (Nat.le_of_ble_eq_true rfl) (Cg.any (c_idx_ok (by omega) (by omega) (by omega))) ?_
  refine Rg.step 15 F_PJ_compare_14 rfl (fun _ => rfl) ?_
  refine Rg.bip 17 F_PJ_compare_15 rfl rfl ?_
  refine Rg.call 20 F_PJ_compare_17 rfl (one_S (by decide +kernel) rM_1_71 (by decide) (by simp) rfl rfl) (Nat.le_of_ble_eq_true rfl) (Cg.any (c_idx_ok (by omega) (by omega) (by omega))) ?_
  refine Rg.step 21 F_PJ_compare_20 rfl (fun _ => rfl) ?_
  refine Rg.step 22 F_PJ_compare_21 rfl (fun _ => rfl) ?_
  refine Rg.step 23 F_PJ_compare_22 rfl (fun _ => rfl) ?_
  refine Rg.call 26 F_PJ_compare_23 rfl (one_S (by decide +kernel) rM_1_92 (by decide) (by simp) rfl rfl) (Nat.le_of_ble_eq_true rfl) (Cg.any (c_chk_ok (by omega) (by omega) (by omega) (by omega))) ?_
  refine Rg.step 28 F_PJ_compare_26 rfl (fun _ => rfl) ?_
  refine Rg.step 29 F_PJ_compare_28 rfl (fun _ => rfl) ?_
  refine Rg.step 30 F_PJ_compare_29 rfl (fun _ => rfl) ?_
  refine Rg.call 33 F_PJ_compare_30 rfl (one_S (by decide +kernel) rM_1_92 (by decide) (by simp) rfl rfl) (Nat.le_of_ble_eq_true rfl) (Cg.any (c_chk_ok (by omega) (by omega) (by omega) (by omega))) ?_
  refine Rg.step 34 F_PJ_compare_33 rfl (fun _ => rfl) ?_
  refine Rg.getf 37 F_PJ_compare_34 rfl rF_1_21 gC_2 rfl ?_
  refine Rg.getf 40 F_PJ_compare_37 rfl rF_1_105 gC_6 rfl ?_
  refine Rg.step 41 F_PJ_compare_40 rfl (fun _ => rfl) ?_
  refine Rg.call 44 F_PJ_compare_41 rfl (one_V rM_1_125 (by decide) (by simp) rfl rfl gC_7 rfl) (Nat.le_of_ble_eq_true rfl) (Cg.any (c_list_get hO wA ha.1 ha.2)) ?_
  refine Rg.cast 47 F_PJ_compare_44 rfl rC_1_118 (gA_0 hC) ?_
  refine Rg.step 49 F_PJ_compare_47 rfl (fun _ => rfl) ?_
  refine Rg.step 51 F_PJ_compare_49 rfl (fun _ => rfl) ?_
  refine Rg.getf 54 F_PJ_compare_51 rfl rF_1_129 (gA_0 hC) rfl ?_
  refine Rg.bip 56 F_PJ_compare_54 rfl rfl ?_
  refine Rg.call 59 F_PJ_compare_56 rfl (one_S (by decide +kernel) rM_1_115 (by decide) (by simp) rfl rfl) (Nat.le_of_ble_eq_true rfl) (Cg.any (c_room_ok (by omega) (by omega) (by omega))) ?_
  refine Rg.step 61 F_PJ_compare_59 rfl (fun _ => rfl) ?_
  refine Rg.step 62 F_PJ_compare_61 rfl (fun _ => rfl) ?_
  refine Rg.step 63 F_PJ_compare_62 rfl (fun _ => rfl) ?_
  refine Rg.step 65 F_PJ_compare_63 rfl (fun _ => rfl) ?_
  refine Rg.step 66 F_PJ_compare_65 rfl (fun _ => rfl) ?_
  refine Rg.getf 69 F_PJ_compare_66 rfl rF_1_12 gC_2 rfl ?_
  refine Rg.call 72 F_PJ_compare_69 rfl (one_V rM_1_136 (by decide) (by simp) rfl rfl (gA_0 hC) rfl) (Nat.le_of_ble_eq_true rfl) hx ?_
  exact Rg.retV F_PJ_compare_72 rfl rfl
theorem r_PJ_make_t {d : Nat}  (hO : ActsOK needs needTime needOf needHow needN needD changes changeTime changeOf changeHow changeN changeD lastOf lastN lastD rest alE actions ab) (wA : 0 ≤ actions ∧ actions ≤ 12) (ha : 0 ≤ a ∧ a < actions) (hC : (ActC (MC s0 s1 handN handD gT gF alE actions alM fiF fiN fiD epN epD goH goN goD plS plP plM plA plBN plBD plLN plLD plR veW veF veP vsF vsN vsD juM juP juTN juTD juO scN scD noF noN noD neF neN neD arP arB arM arU arF arR arL arT arA arS leN leD grN grD arH arLU arGU shN shD stF stN stD rest) (ab a) nd ch me nT nF cs cT cO cH cN cD mT mF as aT aO aH aN aD cG sA dO dN dD)) (hb : 219 ≤ ab a) (hn : 0 ≤ ch ∧ ch ≤ 6) (hn6 : ¬ ch = 6) (ht : t = 0 ∨ t = 2) (hf : 0 ≤ f ∧ f ≤ 15) (hg : ¬ cG t f) (hv : v) : Cg false (d + 3) m_PJ_make [.ref 2, .int (iI a), .int (iI t), .int (iI f), .int (bP v)] (MC s0 s1 handN handD gT gF alE actions alM fiF fiN fiD epN epD goH goN goD plS plP plM plA plBN plBD plLN plLD plR veW veF veP vsF vsN vsD juM juP juTN juTD juO scN scD noF noN noD neF neN neD arP arB arM arU arF arR arL arT arA arS leN leD grN grD arH arLU arGU shN shD stF stN stD rest) (.inl none) (MC s0 s1 handN handD gT gF alE actions alM fiF fiN fiD epN epD goH goN goD plS plP plM plA plBN plBD plLN plLD plR veW veF veP vsF vsN vsD juM juP juTN juTD juO scN scD noF noN noD neF neN neD arP arB arM arU arF arR arL arT arA arS leN leD grN grD arH arLU arGU shN shD stF stN stD (RPA rest (ab a) nd (ch + 1) me nT nF cs cT cO cH cN cD (up1 mT t (fun i => mT t i ∨ i = f)) mF as aT aO aH aN aD (up1 cG t (fun i => cG t i ∨ i = f)) sA dO dN dD)) := by
  have hx : Cg false (d + 2) m_Action_changeFact [.ref (ab a), .int (iI t), .int (iI f), .int (bP v)] (MC s0 s1 handN handD gT gF alE actions alM fiF fiN fiD epN epD goH goN goD plS plP plM plA plBN plBD plLN plLD plR veW veF veP vsF vsN vsD juM juP juTN juTD juO scN scD noF noN noD neF neN neD arP arB arM arU arF arR arL arT arA arS leN leD grN grD arH arLU arGU shN shD stF stN stD rest) (.inl none) (MC s0 s1 handN handD gT gF alE actions alM fiF fiN fiD epN epD goH goN goD plS plP plM plA plBN plBD plLN plLD plR veW veF veP vsF vsN vsD juM juP juTN juTD juO scN scD noF noN noD neF neN neD arP arB arM arU arF arR arL arT arA arS leN leD grN grD arH arLU arGU shN shD stF stN stD (RPA rest (ab a) nd (ch + 1) me nT nF cs cT cO cH cN cD (up1 mT t (fun i => mT t i ∨ i = f)) mF as aT aO aH aN aD (up1 cG t (fun i => cG t i ∨ i = f)) sA dO dN dD)) := call_at hb hC (fun pre post z1 z2 => c_Ac_make_t (by omega) z1 (by omega) hf hv)
  refine Cg.of (Nat.le_of_ble_eq_true rfl) ?_
  change Rg _ _ _ _ 0 [(0, .ref 2), (1, .int (iI a)), (2, .int (iI t)), (3, .int (iI f)), (4, .int (bP v))] [] _ _ _
  refine Rg.step 1 F_PJ_make_0 rfl (fun _ => rfl) ?_
  refine Rg.step 2 F_PJ_make_1 rfl (fun _ => rfl) ?_
  refine Rg.getf 5 F_PJ_make_2 rfl rF_1_21 gC_2 rfl ?_
  refine Rg.getf 8 F_PJ_make_5 rfl rF_1_105 gC_6 rfl ?_
  refine Rg.call 11 F_PJ_make_8 rfl (one_V rM_1_109 (by decide) (by simp) rfl rfl gC_7 rfl) (Nat.le_of_ble_eq_true rfl) (Cg.any c_list_size) ?_
  refine Rg.call 14 F_PJ_make_11 rfl (one_S (by decide +kernel) rM_1_71 (by decide) (by simp) rfl rfl) (Nat.le_of_ble_eq_true rfl) (Cg.any (c_idx_ok (by omega) (by omega) (by omega))) ?_
  refine Rg.step 15 F_PJ_make_14 rfl (fun _ => rfl) ?_
  refine Rg.bip 17 F_PJ_make_15 rfl rfl ?_
  refine Rg.call 20 F_PJ_make_17 rfl (one_S (by decide +kernel) rM_1_71 (by decide) (by simp) rfl rfl) (Nat.le_of_ble_eq_true rfl) (Cg.any (c_idx_ok (by omega) (by omega) (by omega))) ?_
  refine Rg.step 21 F_PJ_make_20 rfl (fun _ => rfl) ?_
  refine Rg.call 24 F_PJ_make_21 rfl (one_S (by decide +kernel) rM_1_140 (by decide) (by simp) rfl rfl) (Nat.le_of_ble_eq_true rfl) (Cg.any (c_toc_ok (by omega) (by omega))) ?_
  refine Rg.step 25 F_PJ_make_24 rfl (fun _ => rfl) ?_
  refine Rg.getf 28 F_PJ_make_25 rfl rF_1_21 gC_2 rfl ?_
  refine Rg.getf 31 F_PJ_make_28 rfl rF_1_105 gC_6 rfl ?_
  refine Rg.step 32 F_PJ_make_31 rfl (fun _ => rfl) ?_
  refine Rg.call 35 F_PJ_make_32 rfl (one_V rM_1_125 (by decide) (by simp) rfl rfl gC_7 rfl) (Nat.le_of_ble_eq_true rfl) (Cg.any (c_list_get hO wA ha.1 ha.2)) ?_
  refine Rg.cast 38 F_PJ_make_35 rfl rC_1_118 (gA_0 hC) ?_
  refine Rg.step 40 F_PJ_make_38 rfl (fun _ => rfl) ?_
  refine Rg.step 42 F_PJ_make_40 rfl (fun _ => rfl) ?_
  refine Rg.step 43 F_PJ_make_42 rfl (fun _ => rfl) ?_
  refine Rg.step 44 F_PJ_make_43 rfl (fun _ => rfl) ?_
  refine Rg.call 47 F_PJ_make_44 rfl (one_S (by decide +kernel) rM_1_85 (by decide) (by simp) rfl rfl) (Nat.le_of_ble_eq_true rfl) (Cg.any (c_factBit (by omega))) ?_
  refine Rg.call 50 F_PJ_make_47 rfl (one_S (by decide +kernel) rM_1_143 (by decide) (by simp) rfl rfl) (Nat.le_of_ble_eq_true rfl) (Cg.any (c_cnc_ok hC hn (by omega) (by omega) hn6 hg)) ?_
  refine Rg.step 52 F_PJ_make_50 rfl (fun _ => rfl) ?_
  refine Rg.step 53 F_PJ_make_52 rfl (fun _ => rfl) ?_
  refine Rg.step 54 F_PJ_make_53 rfl (fun _ => rfl) ?_
  refine Rg.step 56 F_PJ_make_54 rfl (fun _ => rfl) ?_
  refine Rg.call 59 F_PJ_make_56 rfl (one_V rM_1_147 (by decide) (by simp) rfl rfl (gA_0 hC) rfl) (Nat.le_of_ble_eq_true rfl) hx ?_
  exact Rg.retV F_PJ_make_59 rfl rfl
theorem r_PJ_make_f {d : Nat}  (hO : ActsOK needs needTime needOf needHow needN needD changes changeTime changeOf changeHow changeN changeD lastOf lastN lastD rest alE actions ab) (wA : 0 ≤ actions ∧ actions ≤ 12) (ha : 0 ≤ a ∧ a < actions) (hC : (ActC (MC s0 s1 handN handD gT gF alE actions alM fiF fiN fiD epN epD goH goN goD plS plP plM plA plBN plBD plLN plLD plR veW veF veP vsF vsN vsD juM juP juTN juTD juO scN scD noF noN noD neF neN neD arP arB arM arU arF arR arL arT arA arS leN leD grN grD arH arLU arGU shN shD stF stN stD rest) (ab a) nd ch me nT nF cs cT cO cH cN cD mT mF as aT aO aH aN aD cG sA dO dN dD)) (hb : 219 ≤ ab a) (hn : 0 ≤ ch ∧ ch ≤ 6) (hn6 : ¬ ch = 6) (ht : t = 0 ∨ t = 2) (hf : 0 ≤ f ∧ f ≤ 15) (hg : ¬ cG t f) (hv : ¬ v) : Cg false (d + 3) m_PJ_make [.ref 2, .int (iI a), .int (iI t), .int (iI f), .int (bP v)] (MC s0 s1 handN handD gT gF alE actions alM fiF fiN fiD epN epD goH goN goD plS plP plM plA plBN plBD plLN plLD plR veW veF veP vsF vsN vsD juM juP juTN juTD juO scN scD noF noN noD neF neN neD arP arB arM arU arF arR arL arT arA arS leN leD grN grD arH arLU arGU shN shD stF stN stD rest) (.inl none) (MC s0 s1 handN handD gT gF alE actions alM fiF fiN fiD epN epD goH goN goD plS plP plM plA plBN plBD plLN plLD plR veW veF veP vsF vsN vsD juM juP juTN juTD juO scN scD noF noN noD neF neN neD arP arB arM arU arF arR arL arT arA arS leN leD grN grD arH arLU arGU shN shD stF stN stD (RPA rest (ab a) nd (ch + 1) me nT nF cs cT cO cH cN cD mT (up1 mF t (fun i => mF t i ∨ i = f)) as aT aO aH aN aD (up1 cG t (fun i => cG t i ∨ i = f)) sA dO dN dD)) := by
  have hx : Cg false (d + 2) m_Action_changeFact [.ref (ab a), .int (iI t), .int (iI f), .int (bP v)] (MC s0 s1 handN handD gT gF alE actions alM fiF fiN fiD epN epD goH goN goD plS plP plM plA plBN plBD plLN plLD plR veW veF veP vsF vsN vsD juM juP juTN juTD juO scN scD noF noN noD neF neN neD arP arB arM arU arF arR arL arT arA arS leN leD grN grD arH arLU arGU shN shD stF stN stD rest) (.inl none) (MC s0 s1 handN handD gT gF alE actions alM fiF fiN fiD epN epD goH goN goD plS plP plM plA plBN plBD plLN plLD plR veW veF veP vsF vsN vsD juM juP juTN juTD juO scN scD noF noN noD neF neN neD arP arB arM arU arF arR arL arT arA arS leN leD grN grD arH arLU arGU shN shD stF stN stD (RPA rest (ab a) nd (ch + 1) me nT nF cs cT cO cH cN cD mT (up1 mF t (fun i => mF t i ∨ i = f)) as aT aO aH aN aD (up1 cG t (fun i => cG t i ∨ i = f)) sA dO dN dD)) := call_at hb hC (fun pre post z1 z2 => c_Ac_make_f (by omega) z1 (by omega) hf hv)
  refine Cg.of (Nat.le_of_ble_eq_true rfl) ?_
  change Rg _ _ _ _ 0 [(0, .ref 2), (1, .int (iI a)), (2, .int (iI t)), (3, .int (iI f)), (4, .int (bP v))] [] _ _ _
  refine Rg.step 1 F_PJ_make_0 rfl (fun _ => rfl) ?_
  refine Rg.step 2 F_PJ_make_1 rfl (fun _ => rfl) ?_
  refine Rg.getf 5 F_PJ_make_2 rfl rF_1_21 gC_2 rfl ?_
  refine Rg.getf 8 F_PJ_make_5 rfl rF_1_105 gC_6 rfl ?_
  refine Rg.call 11 F_PJ_make_8 rfl (one_V rM_1_109 (by decide) (by simp) rfl rfl gC_7 rfl) (Nat.le_of_ble_eq_true rfl) (Cg.any c_list_size) ?_
  refine Rg.call 14 F_PJ_make_11 rfl (one_S (by decide +kernel) rM_1_71 (by decide) (by simp) rfl rfl) (Nat.le_of_ble_eq_true rfl) (Cg.any (c_idx_ok (by omega) (by omega) (by omega))) ?_
  refine Rg.step 15 F_PJ_make_14 rfl (fun _ => rfl) ?_
  refine Rg.bip 17 F_PJ_make_15 rfl rfl ?_
  refine Rg.call 20 F_PJ_make_17 rfl (one_S (by decide +kernel) rM_1_71 (by decide) (by simp) rfl rfl) (Nat.le_of_ble_eq_true rfl) (Cg.any (c_idx_ok (by omega) (by omega) (by omega))) ?_
  refine Rg.step 21 F_PJ_make_20 rfl (fun _ => rfl) ?_
  refine Rg.call 24 F_PJ_make_21 rfl (one_S (by decide +kernel) rM_1_140 (by decide) (by simp) rfl rfl) (Nat.le_of_ble_eq_true rfl) (Cg.any (c_toc_ok (by omega) (by omega))) ?_
  refine Rg.step 25 F_PJ_make_24 rfl (fun _ => rfl) ?_
  refine Rg.getf 28 F_PJ_make_25 rfl rF_1_21 gC_2 rfl ?_
  refine Rg.getf 31 F_PJ_make_28 rfl rF_1_105 gC_6 rfl ?_
  refine Rg.step 32 F_PJ_make_31 rfl (fun _ => rfl) ?_
  refine Rg.call 35 F_PJ_make_32 rfl (one_V rM_1_125 (by decide) (by simp) rfl rfl gC_7 rfl) (Nat.le_of_ble_eq_true rfl) (Cg.any (c_list_get hO wA ha.1 ha.2)) ?_
  refine Rg.cast 38 F_PJ_make_35 rfl rC_1_118 (gA_0 hC) ?_
  refine Rg.step 40 F_PJ_make_38 rfl (fun _ => rfl) ?_
  refine Rg.step 42 F_PJ_make_40 rfl (fun _ => rfl) ?_
  refine Rg.step 43 F_PJ_make_42 rfl (fun _ => rfl) ?_
  refine Rg.step 44 F_PJ_make_43 rfl (fun _ => rfl) ?_
  refine Rg.call 47 F_PJ_make_44 rfl (one_S (by decide +kernel) rM_1_85 (by decide) (by simp) rfl rfl) (Nat.le_of_ble_eq_true rfl) (Cg.any (c_factBit (by omega))) ?_
  refine Rg.call 50 F_PJ_make_47 rfl (one_S (by decide +kernel) rM_1_143 (by decide) (by simp) rfl rfl) (Nat.le_of_ble_eq_true rfl) (Cg.any (c_cnc_ok hC hn (by omega) (by omega) hn6 hg)) ?_
  refine Rg.step 52 F_PJ_make_50 rfl (fun _ => rfl) ?_
  refine Rg.step 53 F_PJ_make_52 rfl (fun _ => rfl) ?_
  refine Rg.step 54 F_PJ_make_53 rfl (fun _ => rfl) ?_
  refine Rg.step 56 F_PJ_make_54 rfl (fun _ => rfl) ?_
  refine Rg.call 59 F_PJ_make_56 rfl (one_V rM_1_147 (by decide) (by simp) rfl rfl (gA_0 hC) rfl) (Nat.le_of_ble_eq_true rfl) hx ?_
  exact Rg.retV F_PJ_make_59 rfl rfl
theorem r_PJ_change_s {d : Nat}  (hO : ActsOK needs needTime needOf needHow needN needD changes changeTime changeOf changeHow changeN changeD lastOf lastN lastD rest alE actions ab) (wA : 0 ≤ actions ∧ actions ≤ 12) (ha : 0 ≤ a ∧ a < actions) (hC : (ActC (MC s0 s1 handN handD gT gF alE actions alM fiF fiN fiD epN epD goH goN goD plS plP plM plA plBN plBD plLN plLD plR veW veF veP vsF vsN vsD juM juP juTN juTD juO scN scD noF noN noD neF neN neD arP arB arM arU arF arR arL arT arA arS leN leD grN grD arH arLU arGU shN shD stF stN stD rest) (ab a) nd ch me nT nF cs cT cO cH cN cD mT mF as aT aO aH aN aD cG sA dO dN dD)) (hb : 219 ≤ ab a) (hn : 0 ≤ ch ∧ ch ≤ 6) (hn6 : ¬ ch = 6) (hs : 0 ≤ as ∧ as < 6) (ht : t = 0 ∨ t = 2) (hf : 0 ≤ f ∧ f ≤ 7) (hg : ¬ cG t (16 + f)) (hw : how = 0 ∨ how = 3) : Cg false (d + 3) m_PJ_change [.ref 2, .int (iI a), .int (iI t), .int (iI f), .int (iI how)] (MC s0 s1 handN handD gT gF alE actions alM fiF fiN fiD epN epD goH goN goD plS plP plM plA plBN plBD plLN plLD plR veW veF veP vsF vsN vsD juM juP juTN juTD juO scN scD noF noN noD neF neN neD arP arB arM arU arF arR arL arT arA arS leN leD grN grD arH arLU arGU shN shD stF stN stD rest) (.inl none) (MC s0 s1 handN handD gT gF alE actions alM fiF fiN fiD epN epD goH goN goD plS plP plM plA plBN plBD plLN plLD plR veW veF veP vsF vsN vsD juM juP juTN juTD juO scN scD noF noN noD neF neN neD arP arB arM arU arF arR arL arT arA arS leN leD grN grD arH arLU arGU shN shD stF stN stD (RPA rest (ab a) nd (ch + 1) me nT nF cs cT cO cH cN cD mT mF (as + 1) (up1 aT as t) (up1 aO as f) (up1 aH as how) (up1 aN as (handN 0)) (up1 aD as (handD 0)) (up1 cG t (fun i => cG t i ∨ i = 16 + f)) (up1 sA t (fun i => sA t i ∨ i = 16 + f)) dO dN dD)) := by
  have hx : Cg false (d + 2) m_Action_changeNumber [.ref (ab a), .int (iI t), .int (iI f), .int (iI how), .ref 3] (MC s0 s1 handN handD gT gF alE actions alM fiF fiN fiD epN epD goH goN goD plS plP plM plA plBN plBD plLN plLD plR veW veF veP vsF vsN vsD juM juP juTN juTD juO scN scD noF noN noD neF neN neD arP arB arM arU arF arR arL arT arA arS leN leD grN grD arH arLU arGU shN shD stF stN stD rest) (.inl none) (MC s0 s1 handN handD gT gF alE actions alM fiF fiN fiD epN epD goH goN goD plS plP plM plA plBN plBD plLN plLD plR veW veF veP vsF vsN vsD juM juP juTN juTD juO scN scD noF noN noD neF neN neD arP arB arM arU arF arR arL arT arA arS leN leD grN grD arH arLU arGU shN shD stF stN stD (RPA rest (ab a) nd (ch + 1) me nT nF cs cT cO cH cN cD mT mF (as + 1) (up1 aT as t) (up1 aO as f) (up1 aH as how) (up1 aN as (handN 0)) (up1 aD as (handD 0)) (up1 cG t (fun i => cG t i ∨ i = 16 + f)) (up1 sA t (fun i => sA t i ∨ i = 16 + f)) dO dN dD)) := call_at hb hC (fun pre post z1 z2 => c_Ac_change_s (by omega) z1 z2 hs (by omega) hf hw)
  refine Cg.of (Nat.le_of_ble_eq_true rfl) ?_
  change Rg _ _ _ _ 0 [(0, .ref 2), (1, .int (iI a)), (2, .int (iI t)), (3, .int (iI f)), (4, .int (iI how))] [] _ _ _
  refine Rg.step 1 F_PJ_change_0 rfl (fun _ => rfl) ?_
  refine Rg.step 2 F_PJ_change_1 rfl (fun _ => rfl) ?_
  refine Rg.getf 5 F_PJ_change_2 rfl rF_1_21 gC_2 rfl ?_
  refine Rg.getf 8 F_PJ_change_5 rfl rF_1_105 gC_6 rfl ?_
  refine Rg.call 11 F_PJ_change_8 rfl (one_V rM_1_109 (by decide) (by simp) rfl rfl gC_7 rfl) (Nat.le_of_ble_eq_true rfl) (Cg.any c_list_size) ?_
  refine Rg.call 14 F_PJ_change_11 rfl (one_S (by decide +kernel) rM_1_71 (by decide) (by simp) rfl rfl) (Nat.le_of_ble_eq_true rfl) (Cg.any (c_idx_ok (by omega) (by omega) (by omega))) ?_
  refine Rg.step 15 F_PJ_change_14 rfl (fun _ => rfl) ?_
  refine Rg.bip 17 F_PJ_change_15 rfl rfl ?_
  refine Rg.call 20 F_PJ_change_17 rfl (one_S (by decide +kernel) rM_1_71 (by decide) (by simp) rfl rfl) (Nat.le_of_ble_eq_true rfl) (Cg.any (c_idx_ok (by omega) (by omega) (by omega))) ?_
  refine Rg.step 21 F_PJ_change_20 rfl (fun _ => rfl) ?_
  refine Rg.call 24 F_PJ_change_21 rfl (one_S (by decide +kernel) rM_1_140 (by decide) (by simp) rfl rfl) (Nat.le_of_ble_eq_true rfl) (Cg.any (c_toc_ok (by omega) (by omega))) ?_
  refine Rg.step 26 F_PJ_change_24 rfl (fun _ => rfl) ?_
  refine Rg.step 27 F_PJ_change_26 rfl (fun _ => rfl) ?_
  refine Rg.step 28 F_PJ_change_27 rfl (fun _ => rfl) ?_
  refine Rg.call 31 F_PJ_change_28 rfl (one_S (by decide +kernel) rM_1_92 (by decide) (by simp) rfl rfl) (Nat.le_of_ble_eq_true rfl) (Cg.any (c_chk_ok (by omega) (by omega) (by omega) (by omega))) ?_
  refine Rg.step 32 F_PJ_change_31 rfl (fun _ => rfl) ?_
  refine Rg.getf 35 F_PJ_change_32 rfl rF_1_21 gC_2 rfl ?_
  refine Rg.getf 38 F_PJ_change_35 rfl rF_1_105 gC_6 rfl ?_
  refine Rg.step 39 F_PJ_change_38 rfl (fun _ => rfl) ?_
  refine Rg.call 42 F_PJ_change_39 rfl (one_V rM_1_125 (by decide) (by simp) rfl rfl gC_7 rfl) (Nat.le_of_ble_eq_true rfl) (Cg.any (c_list_get hO wA ha.1 ha.2)) ?_
  refine Rg.cast 45 F_PJ_change_42 rfl rC_1_118 (gA_0 hC) ?_
  refine Rg.step 47 F_PJ_change_45 rfl (fun _ => rfl) ?_
  refine Rg.step 49 F_PJ_change_47 rfl (fun _ => rfl) ?_
  refine Rg.step 50 F_PJ_change_49 rfl (fun _ => rfl) ?_
  refine Rg.step 51 F_PJ_change_50 rfl (fun _ => rfl) ?_
  refine Rg.call 54 F_PJ_change_51 rfl (one_S (by decide +kernel) rM_1_150 (by decide) (by simp) rfl rfl) (Nat.le_of_ble_eq_true rfl) (Cg.any (c_numberBit (by omega))) ?_
  refine Rg.call 57 F_PJ_change_54 rfl (one_S (by decide +kernel) rM_1_143 (by decide) (by simp) rfl rfl) (Nat.le_of_ble_eq_true rfl) (Cg.any (c_cnc_ok hC hn (by omega) (by omega) hn6 hg)) ?_
  refine Rg.step 59 F_PJ_change_57 rfl (fun _ => rfl) ?_
  refine Rg.step 60 F_PJ_change_59 rfl (fun _ => rfl) ?_
  refine Rg.step 61 F_PJ_change_60 rfl (fun _ => rfl) ?_
  refine Rg.step 63 F_PJ_change_61 rfl (fun _ => rfl) ?_
  refine Rg.step 64 F_PJ_change_63 rfl (fun _ => rfl) ?_
  refine Rg.getf 67 F_PJ_change_64 rfl rF_1_12 gC_2 rfl ?_
  refine Rg.call 70 F_PJ_change_67 rfl (one_V rM_1_153 (by decide) (by simp) rfl rfl (gA_0 hC) rfl) (Nat.le_of_ble_eq_true rfl) hx ?_
  exact Rg.retV F_PJ_change_70 rfl rfl
theorem r_PJ_change_u {d : Nat}  (hO : ActsOK needs needTime needOf needHow needN needD changes changeTime changeOf changeHow changeN changeD lastOf lastN lastD rest alE actions ab) (wA : 0 ≤ actions ∧ actions ≤ 12) (ha : 0 ≤ a ∧ a < actions) (hC : (ActC (MC s0 s1 handN handD gT gF alE actions alM fiF fiN fiD epN epD goH goN goD plS plP plM plA plBN plBD plLN plLD plR veW veF veP vsF vsN vsD juM juP juTN juTD juO scN scD noF noN noD neF neN neD arP arB arM arU arF arR arL arT arA arS leN leD grN grD arH arLU arGU shN shD stF stN stD rest) (ab a) nd ch me nT nF cs cT cO cH cN cD mT mF as aT aO aH aN aD cG sA dO dN dD)) (hb : 219 ≤ ab a) (hn : 0 ≤ ch ∧ ch ≤ 6) (hn6 : ¬ ch = 6) (hs : 0 ≤ as ∧ as < 6) (ht : t = 0 ∨ t = 2) (hf : 0 ≤ f ∧ f ≤ 7) (hg : ¬ cG t (16 + f)) (hw : how = 1 ∨ how = 2) : Cg false (d + 3) m_PJ_change [.ref 2, .int (iI a), .int (iI t), .int (iI f), .int (iI how)] (MC s0 s1 handN handD gT gF alE actions alM fiF fiN fiD epN epD goH goN goD plS plP plM plA plBN plBD plLN plLD plR veW veF veP vsF vsN vsD juM juP juTN juTD juO scN scD noF noN noD neF neN neD arP arB arM arU arF arR arL arT arA arS leN leD grN grD arH arLU arGU shN shD stF stN stD rest) (.inl none) (MC s0 s1 handN handD gT gF alE actions alM fiF fiN fiD epN epD goH goN goD plS plP plM plA plBN plBD plLN plLD plR veW veF veP vsF vsN vsD juM juP juTN juTD juO scN scD noF noN noD neF neN neD arP arB arM arU arF arR arL arT arA arS leN leD grN grD arH arLU arGU shN shD stF stN stD (RPA rest (ab a) nd (ch + 1) me nT nF cs cT cO cH cN cD mT mF (as + 1) (up1 aT as t) (up1 aO as f) (up1 aH as how) (up1 aN as (handN 0)) (up1 aD as (handD 0)) (up1 cG t (fun i => cG t i ∨ i = 16 + f)) sA dO dN dD)) := by
  have hx : Cg false (d + 2) m_Action_changeNumber [.ref (ab a), .int (iI t), .int (iI f), .int (iI how), .ref 3] (MC s0 s1 handN handD gT gF alE actions alM fiF fiN fiD epN epD goH goN goD plS plP plM plA plBN plBD plLN plLD plR veW veF veP vsF vsN vsD juM juP juTN juTD juO scN scD noF noN noD neF neN neD arP arB arM arU arF arR arL arT arA arS leN leD grN grD arH arLU arGU shN shD stF stN stD rest) (.inl none) (MC s0 s1 handN handD gT gF alE actions alM fiF fiN fiD epN epD goH goN goD plS plP plM plA plBN plBD plLN plLD plR veW veF veP vsF vsN vsD juM juP juTN juTD juO scN scD noF noN noD neF neN neD arP arB arM arU arF arR arL arT arA arS leN leD grN grD arH arLU arGU shN shD stF stN stD (RPA rest (ab a) nd (ch + 1) me nT nF cs cT cO cH cN cD mT mF (as + 1) (up1 aT as t) (up1 aO as f) (up1 aH as how) (up1 aN as (handN 0)) (up1 aD as (handD 0)) (up1 cG t (fun i => cG t i ∨ i = 16 + f)) sA dO dN dD)) := call_at hb hC (fun pre post z1 z2 => c_Ac_change_u (by omega) z1 z2 hs (by omega) hf hw)
  refine Cg.of (Nat.le_of_ble_eq_true rfl) ?_
  change Rg _ _ _ _ 0 [(0, .ref 2), (1, .int (iI a)), (2, .int (iI t)), (3, .int (iI f)), (4, .int (iI how))] [] _ _ _
  refine Rg.step 1 F_PJ_change_0 rfl (fun _ => rfl) ?_
  refine Rg.step 2 F_PJ_change_1 rfl (fun _ => rfl) ?_
  refine Rg.getf 5 F_PJ_change_2 rfl rF_1_21 gC_2 rfl ?_
  refine Rg.getf 8 F_PJ_change_5 rfl rF_1_105 gC_6 rfl ?_
  refine Rg.call 11 F_PJ_change_8 rfl (one_V rM_1_109 (by decide) (by simp) rfl rfl gC_7 rfl) (Nat.le_of_ble_eq_true rfl) (Cg.any c_list_size) ?_
  refine Rg.call 14 F_PJ_change_11 rfl (one_S (by decide +kernel) rM_1_71 (by decide) (by simp) rfl rfl) (Nat.le_of_ble_eq_true rfl) (Cg.any (c_idx_ok (by omega) (by omega) (by omega))) ?_
  refine Rg.step 15 F_PJ_change_14 rfl (fun _ => rfl) ?_
  refine Rg.bip 17 F_PJ_change_15 rfl rfl ?_
  refine Rg.call 20 F_PJ_change_17 rfl (one_S (by decide +kernel) rM_1_71 (by decide) (by simp) rfl rfl) (Nat.le_of_ble_eq_true rfl) (Cg.any (c_idx_ok (by omega) (by omega) (by omega))) ?_
  refine Rg.step 21 F_PJ_change_20 rfl (fun _ => rfl) ?_
  refine Rg.call 24 F_PJ_change_21 rfl (one_S (by decide +kernel) rM_1_140 (by decide) (by simp) rfl rfl) (Nat.le_of_ble_eq_true rfl) (Cg.any (c_toc_ok (by omega) (by omega))) ?_
  refine Rg.step 26 F_PJ_change_24 rfl (fun _ => rfl) ?_
  refine Rg.step 27 F_PJ_change_26 rfl (fun _ => rfl) ?_
  refine Rg.step 28 F_PJ_change_27 rfl (fun _ => rfl) ?_
  refine Rg.call 31 F_PJ_change_28 rfl (one_S (by decide +kernel) rM_1_92 (by decide) (by simp) rfl rfl) (Nat.le_of_ble_eq_true rfl) (Cg.any (c_chk_ok (by omega) (by omega) (by omega) (by omega))) ?_
  refine Rg.step 32 F_PJ_change_31 rfl (fun _ => rfl) ?_
  refine Rg.getf 35 F_PJ_change_32 rfl rF_1_21 gC_2 rfl ?_
  refine Rg.getf 38 F_PJ_change_35 rfl rF_1_105 gC_6 rfl ?_
  refine Rg.step 39 F_PJ_change_38 rfl (fun _ => rfl) ?_
  refine Rg.call 42 F_PJ_change_39 rfl (one_V rM_1_125 (by decide) (by simp) rfl rfl gC_7 rfl) (Nat.le_of_ble_eq_true rfl) (Cg.any (c_list_get hO wA ha.1 ha.2)) ?_
  refine Rg.cast 45 F_PJ_change_42 rfl rC_1_118 (gA_0 hC) ?_
  refine Rg.step 47 F_PJ_change_45 rfl (fun _ => rfl) ?_
  refine Rg.step 49 F_PJ_change_47 rfl (fun _ => rfl) ?_
  refine Rg.step 50 F_PJ_change_49 rfl (fun _ => rfl) ?_
  refine Rg.step 51 F_PJ_change_50 rfl (fun _ => rfl) ?_
  refine Rg.call 54 F_PJ_change_51 rfl (one_S (by decide +kernel) rM_1_150 (by decide) (by simp) rfl rfl) (Nat.le_of_ble_eq_true rfl) (Cg.any (c_numberBit (by omega))) ?_
  refine Rg.call 57 F_PJ_change_54 rfl (one_S (by decide +kernel) rM_1_143 (by decide) (by simp) rfl rfl) (Nat.le_of_ble_eq_true rfl) (Cg.any (c_cnc_ok hC hn (by omega) (by omega) hn6 hg)) ?_
  refine Rg.step 59 F_PJ_change_57 rfl (fun _ => rfl) ?_
  refine Rg.step 60 F_PJ_change_59 rfl (fun _ => rfl) ?_
  refine Rg.step 61 F_PJ_change_60 rfl (fun _ => rfl) ?_
  refine Rg.step 63 F_PJ_change_61 rfl (fun _ => rfl) ?_
  refine Rg.step 64 F_PJ_change_63 rfl (fun _ => rfl) ?_
  refine Rg.getf 67 F_PJ_change_64 rfl rF_1_12 gC_2 rfl ?_
  refine Rg.call 70 F_PJ_change_67 rfl (one_V rM_1_153 (by decide) (by simp) rfl rfl (gA_0 hC) rfl) (Nat.le_of_ble_eq_true rfl) hx ?_
  exact Rg.retV F_PJ_change_70 rfl rfl
theorem r_PJ_last_n {d : Nat}  (hO : ActsOK needs needTime needOf needHow needN needD changes changeTime changeOf changeHow changeN changeD lastOf lastN lastD rest alE actions ab) (wA : 0 ≤ actions ∧ actions ≤ 12) (ha : 0 ≤ a ∧ a < actions) (hC : (ActC (MC s0 s1 handN handD gT gF alE actions alM fiF fiN fiD epN epD goH goN goD plS plP plM plA plBN plBD plLN plLD plR veW veF veP vsF vsN vsD juM juP juTN juTD juO scN scD noF noN noD neF neN neD arP arB arM arU arF arR arL arT arA arS leN leD grN grD arH arLU arGU shN shD stF stN stD rest) (ab a) nd ch me nT nF cs cT cO cH cN cD mT mF as aT aO aH aN aD cG sA dO dN dD)) (hb : 219 ≤ ab a) (hd : ∀ j, 0 ≤ j → j < 2 → -2 ≤ dO j ∧ dO j ≤ 7) (ht : 0 ≤ t ∧ t ≤ 1) (hf : 0 ≤ f ∧ f ≤ 7) : Cg false (d + 3) m_PJ_last [.ref 2, .int (iI a), .int (iI t), .int (iI f)] (MC s0 s1 handN handD gT gF alE actions alM fiF fiN fiD epN epD goH goN goD plS plP plM plA plBN plBD plLN plLD plR veW veF veP vsF vsN vsD juM juP juTN juTD juO scN scD noF noN noD neF neN neD arP arB arM arU arF arR arL arT arA arS leN leD grN grD arH arLU arGU shN shD stF stN stD rest) (.inl none) (MC s0 s1 handN handD gT gF alE actions alM fiF fiN fiD epN epD goH goN goD plS plP plM plA plBN plBD plLN plLD plR veW veF veP vsF vsN vsD juM juP juTN juTD juO scN scD noF noN noD neF neN neD arP arB arM arU arF arR arL arT arA arS leN leD grN grD arH arLU arGU shN shD stF stN stD (RPA rest (ab a) nd ch (fun i => ∃ j, 0 ≤ j ∧ j < 2 ∧ 0 ≤ (up1 dO t f) j ∧ i = 16 + (up1 dO t f) j) nT nF cs cT cO cH cN cD mT mF as aT aO aH aN aD cG sA (up1 dO t f) (up1 dN t (handN 0)) (up1 dD t (handD 0)))) := by
  have hx : Cg false (d + 2) m_Action_boundDuration [.ref (ab a), .int (iI t), .int (iI f), .ref 3] (MC s0 s1 handN handD gT gF alE actions alM fiF fiN fiD epN epD goH goN goD plS plP plM plA plBN plBD plLN plLD plR veW veF veP vsF vsN vsD juM juP juTN juTD juO scN scD noF noN noD neF neN neD arP arB arM arU arF arR arL arT arA arS leN leD grN grD arH arLU arGU shN shD stF stN stD rest) (.inl none) (MC s0 s1 handN handD gT gF alE actions alM fiF fiN fiD epN epD goH goN goD plS plP plM plA plBN plBD plLN plLD plR veW veF veP vsF vsN vsD juM juP juTN juTD juO scN scD noF noN noD neF neN neD arP arB arM arU arF arR arL arT arA arS leN leD grN grD arH arLU arGU shN shD stF stN stD (RPA rest (ab a) nd ch (fun i => ∃ j, 0 ≤ j ∧ j < 2 ∧ 0 ≤ (up1 dO t f) j ∧ i = 16 + (up1 dO t f) j) nT nF cs cT cO cH cN cD mT mF as aT aO aH aN aD cG sA (up1 dO t f) (up1 dN t (handN 0)) (up1 dD t (handD 0)))) := call_at hb hC (fun pre post z1 z2 => c_Ac_bound (by omega) z1 z2 hd ht (by omega))
  refine Cg.of (Nat.le_of_ble_eq_true rfl) ?_
  change Rg _ _ _ _ 0 [(0, .ref 2), (1, .int (iI a)), (2, .int (iI t)), (3, .int (iI f))] [] _ _ _
  refine Rg.step 1 F_PJ_last_0 rfl (fun _ => rfl) ?_
  refine Rg.step 2 F_PJ_last_1 rfl (fun _ => rfl) ?_
  refine Rg.getf 5 F_PJ_last_2 rfl rF_1_21 gC_2 rfl ?_
  refine Rg.getf 8 F_PJ_last_5 rfl rF_1_105 gC_6 rfl ?_
  refine Rg.call 11 F_PJ_last_8 rfl (one_V rM_1_109 (by decide) (by simp) rfl rfl gC_7 rfl) (Nat.le_of_ble_eq_true rfl) (Cg.any c_list_size) ?_
  refine Rg.call 14 F_PJ_last_11 rfl (one_S (by decide +kernel) rM_1_71 (by decide) (by simp) rfl rfl) (Nat.le_of_ble_eq_true rfl) (Cg.any (c_idx_ok (by omega) (by omega) (by omega))) ?_
  refine Rg.step 15 F_PJ_last_14 rfl (fun _ => rfl) ?_
  refine Rg.step 16 F_PJ_last_15 rfl (fun _ => rfl) ?_
  refine Rg.iceqI 31 19 F_PJ_last_16 rfl rfl (by omega) (by omega) (fun h16 => by omega) (fun _ => ?_)
  refine Rg.step 20 F_PJ_last_19 rfl (fun _ => rfl) ?_
  refine Rg.bip 22 F_PJ_last_20 rfl rfl ?_
  refine Rg.iceqI 31 25 F_PJ_last_22 rfl rfl (by omega) (by omega) (fun h22 => by omega) (fun _ => ?_)
  refine Rg.step 26 F_PJ_last_25 rfl (fun _ => rfl) ?_
  refine Rg.bip 28 F_PJ_last_26 rfl rfl ?_
  refine Rg.call 31 F_PJ_last_28 rfl (one_S (by decide +kernel) rM_1_71 (by decide) (by simp) rfl rfl) (Nat.le_of_ble_eq_true rfl) (Cg.any (c_idx_ok (by omega) (by omega) (by omega))) ?_
  refine Rg.step 32 F_PJ_last_31 rfl (fun _ => rfl) ?_
  refine Rg.step 33 F_PJ_last_32 rfl (fun _ => rfl) ?_
  refine Rg.step 34 F_PJ_last_33 rfl (fun _ => rfl) ?_
  refine Rg.call 37 F_PJ_last_34 rfl (one_S (by decide +kernel) rM_1_92 (by decide) (by simp) rfl rfl) (Nat.le_of_ble_eq_true rfl) (Cg.any (c_chk_ok (by omega) (by omega) (by omega) (by omega))) ?_
  refine Rg.step 38 F_PJ_last_37 rfl (fun _ => rfl) ?_
  refine Rg.getf 41 F_PJ_last_38 rfl rF_1_21 gC_2 rfl ?_
  refine Rg.getf 44 F_PJ_last_41 rfl rF_1_105 gC_6 rfl ?_
  refine Rg.step 45 F_PJ_last_44 rfl (fun _ => rfl) ?_
  refine Rg.call 48 F_PJ_last_45 rfl (one_V rM_1_125 (by decide) (by simp) rfl rfl gC_7 rfl) (Nat.le_of_ble_eq_true rfl) (Cg.any (c_list_get hO wA ha.1 ha.2)) ?_
  refine Rg.cast 51 F_PJ_last_48 rfl rC_1_118 (gA_0 hC) ?_
  refine Rg.step 52 F_PJ_last_51 rfl (fun _ => rfl) ?_
  refine Rg.step 53 F_PJ_last_52 rfl (fun _ => rfl) ?_
  refine Rg.step 54 F_PJ_last_53 rfl (fun _ => rfl) ?_
  refine Rg.getf 57 F_PJ_last_54 rfl rF_1_12 gC_2 rfl ?_
  refine Rg.call 60 F_PJ_last_57 rfl (one_V rM_1_156 (by decide) (by simp) rfl rfl (gA_0 hC) rfl) (Nat.le_of_ble_eq_true rfl) hx ?_
  exact Rg.retV F_PJ_last_60 rfl rfl
theorem r_PJ_last_m {d : Nat}  (hO : ActsOK needs needTime needOf needHow needN needD changes changeTime changeOf changeHow changeN changeD lastOf lastN lastD rest alE actions ab) (wA : 0 ≤ actions ∧ actions ≤ 12) (ha : 0 ≤ a ∧ a < actions) (hC : (ActC (MC s0 s1 handN handD gT gF alE actions alM fiF fiN fiD epN epD goH goN goD plS plP plM plA plBN plBD plLN plLD plR veW veF veP vsF vsN vsD juM juP juTN juTD juO scN scD noF noN noD neF neN neD arP arB arM arU arF arR arL arT arA arS leN leD grN grD arH arLU arGU shN shD stF stN stD rest) (ab a) nd ch me nT nF cs cT cO cH cN cD mT mF as aT aO aH aN aD cG sA dO dN dD)) (hb : 219 ≤ ab a) (hd : ∀ j, 0 ≤ j → j < 2 → -2 ≤ dO j ∧ dO j ≤ 7) (ht : 0 ≤ t ∧ t ≤ 1) (hf : f = -1) : Cg false (d + 3) m_PJ_last [.ref 2, .int (iI a), .int (iI t), .int (iI f)] (MC s0 s1 handN handD gT gF alE actions alM fiF fiN fiD epN epD goH goN goD plS plP plM plA plBN plBD plLN plLD plR veW veF veP vsF vsN vsD juM juP juTN juTD juO scN scD noF noN noD neF neN neD arP arB arM arU arF arR arL arT arA arS leN leD grN grD arH arLU arGU shN shD stF stN stD rest) (.inl none) (MC s0 s1 handN handD gT gF alE actions alM fiF fiN fiD epN epD goH goN goD plS plP plM plA plBN plBD plLN plLD plR veW veF veP vsF vsN vsD juM juP juTN juTD juO scN scD noF noN noD neF neN neD arP arB arM arU arF arR arL arT arA arS leN leD grN grD arH arLU arGU shN shD stF stN stD (RPA rest (ab a) nd ch (fun i => ∃ j, 0 ≤ j ∧ j < 2 ∧ 0 ≤ (up1 dO t f) j ∧ i = 16 + (up1 dO t f) j) nT nF cs cT cO cH cN cD mT mF as aT aO aH aN aD cG sA (up1 dO t f) (up1 dN t (handN 0)) (up1 dD t (handD 0)))) := by
  have hx : Cg false (d + 2) m_Action_boundDuration [.ref (ab a), .int (iI t), .int (iI f), .ref 3] (MC s0 s1 handN handD gT gF alE actions alM fiF fiN fiD epN epD goH goN goD plS plP plM plA plBN plBD plLN plLD plR veW veF veP vsF vsN vsD juM juP juTN juTD juO scN scD noF noN noD neF neN neD arP arB arM arU arF arR arL arT arA arS leN leD grN grD arH arLU arGU shN shD stF stN stD rest) (.inl none) (MC s0 s1 handN handD gT gF alE actions alM fiF fiN fiD epN epD goH goN goD plS plP plM plA plBN plBD plLN plLD plR veW veF veP vsF vsN vsD juM juP juTN juTD juO scN scD noF noN noD neF neN neD arP arB arM arU arF arR arL arT arA arS leN leD grN grD arH arLU arGU shN shD stF stN stD (RPA rest (ab a) nd ch (fun i => ∃ j, 0 ≤ j ∧ j < 2 ∧ 0 ≤ (up1 dO t f) j ∧ i = 16 + (up1 dO t f) j) nT nF cs cT cO cH cN cD mT mF as aT aO aH aN aD cG sA (up1 dO t f) (up1 dN t (handN 0)) (up1 dD t (handD 0)))) := call_at hb hC (fun pre post z1 z2 => c_Ac_bound (by omega) z1 z2 hd ht (by omega))
  refine Cg.of (Nat.le_of_ble_eq_true rfl) ?_
  change Rg _ _ _ _ 0 [(0, .ref 2), (1, .int (iI a)), (2, .int (iI t)), (3, .int (iI f))] [] _ _ _
  refine Rg.step 1 F_PJ_last_0 rfl (fun _ => rfl) ?_
  refine Rg.step 2 F_PJ_last_1 rfl (fun _ => rfl) ?_
  refine Rg.getf 5 F_PJ_last_2 rfl rF_1_21 gC_2 rfl ?_
  refine Rg.getf 8 F_PJ_last_5 rfl rF_1_105 gC_6 rfl ?_
  refine Rg.call 11 F_PJ_last_8 rfl (one_V rM_1_109 (by decide) (by simp) rfl rfl gC_7 rfl) (Nat.le_of_ble_eq_true rfl) (Cg.any c_list_size) ?_
  refine Rg.call 14 F_PJ_last_11 rfl (one_S (by decide +kernel) rM_1_71 (by decide) (by simp) rfl rfl) (Nat.le_of_ble_eq_true rfl) (Cg.any (c_idx_ok (by omega) (by omega) (by omega))) ?_
  refine Rg.step 15 F_PJ_last_14 rfl (fun _ => rfl) ?_
  refine Rg.step 16 F_PJ_last_15 rfl (fun _ => rfl) ?_
  refine Rg.iceqI 31 19 F_PJ_last_16 rfl rfl (by omega) (by omega) (fun _ => ?_) (fun h16 => by omega)
  refine Rg.step 32 F_PJ_last_31 rfl (fun _ => rfl) ?_
  refine Rg.step 33 F_PJ_last_32 rfl (fun _ => rfl) ?_
  refine Rg.step 34 F_PJ_last_33 rfl (fun _ => rfl) ?_
  refine Rg.call 37 F_PJ_last_34 rfl (one_S (by decide +kernel) rM_1_92 (by decide) (by simp) rfl rfl) (Nat.le_of_ble_eq_true rfl) (Cg.any (c_chk_ok (by omega) (by omega) (by omega) (by omega))) ?_
  refine Rg.step 38 F_PJ_last_37 rfl (fun _ => rfl) ?_
  refine Rg.getf 41 F_PJ_last_38 rfl rF_1_21 gC_2 rfl ?_
  refine Rg.getf 44 F_PJ_last_41 rfl rF_1_105 gC_6 rfl ?_
  refine Rg.step 45 F_PJ_last_44 rfl (fun _ => rfl) ?_
  refine Rg.call 48 F_PJ_last_45 rfl (one_V rM_1_125 (by decide) (by simp) rfl rfl gC_7 rfl) (Nat.le_of_ble_eq_true rfl) (Cg.any (c_list_get hO wA ha.1 ha.2)) ?_
  refine Rg.cast 51 F_PJ_last_48 rfl rC_1_118 (gA_0 hC) ?_
  refine Rg.step 52 F_PJ_last_51 rfl (fun _ => rfl) ?_
  refine Rg.step 53 F_PJ_last_52 rfl (fun _ => rfl) ?_
  refine Rg.step 54 F_PJ_last_53 rfl (fun _ => rfl) ?_
  refine Rg.getf 57 F_PJ_last_54 rfl rF_1_12 gC_2 rfl ?_
  refine Rg.call 60 F_PJ_last_57 rfl (one_V rM_1_156 (by decide) (by simp) rfl rfl (gA_0 hC) rfl) (Nat.le_of_ble_eq_true rfl) hx ?_
  exact Rg.retV F_PJ_last_60 rfl rfl
theorem r_PJ_last_o {d : Nat}  (hO : ActsOK needs needTime needOf needHow needN needD changes changeTime changeOf changeHow changeN changeD lastOf lastN lastD rest alE actions ab) (wA : 0 ≤ actions ∧ actions ≤ 12) (ha : 0 ≤ a ∧ a < actions) (hC : (ActC (MC s0 s1 handN handD gT gF alE actions alM fiF fiN fiD epN epD goH goN goD plS plP plM plA plBN plBD plLN plLD plR veW veF veP vsF vsN vsD juM juP juTN juTD juO scN scD noF noN noD neF neN neD arP arB arM arU arF arR arL arT arA arS leN leD grN grD arH arLU arGU shN shD stF stN stD rest) (ab a) nd ch me nT nF cs cT cO cH cN cD mT mF as aT aO aH aN aD cG sA dO dN dD)) (hb : 219 ≤ ab a) (hd : ∀ j, 0 ≤ j → j < 2 → -2 ≤ dO j ∧ dO j ≤ 7) (ht : 0 ≤ t ∧ t ≤ 1) (hf : f = -2) : Cg false (d + 3) m_PJ_last [.ref 2, .int (iI a), .int (iI t), .int (iI f)] (MC s0 s1 handN handD gT gF alE actions alM fiF fiN fiD epN epD goH goN goD plS plP plM plA plBN plBD plLN plLD plR veW veF veP vsF vsN vsD juM juP juTN juTD juO scN scD noF noN noD neF neN neD arP arB arM arU arF arR arL arT arA arS leN leD grN grD arH arLU arGU shN shD stF stN stD rest) (.inl none) (MC s0 s1 handN handD gT gF alE actions alM fiF fiN fiD epN epD goH goN goD plS plP plM plA plBN plBD plLN plLD plR veW veF veP vsF vsN vsD juM juP juTN juTD juO scN scD noF noN noD neF neN neD arP arB arM arU arF arR arL arT arA arS leN leD grN grD arH arLU arGU shN shD stF stN stD (RPA rest (ab a) nd ch (fun i => ∃ j, 0 ≤ j ∧ j < 2 ∧ 0 ≤ (up1 dO t f) j ∧ i = 16 + (up1 dO t f) j) nT nF cs cT cO cH cN cD mT mF as aT aO aH aN aD cG sA (up1 dO t f) (up1 dN t (handN 0)) (up1 dD t (handD 0)))) := by
  have hx : Cg false (d + 2) m_Action_boundDuration [.ref (ab a), .int (iI t), .int (iI f), .ref 3] (MC s0 s1 handN handD gT gF alE actions alM fiF fiN fiD epN epD goH goN goD plS plP plM plA plBN plBD plLN plLD plR veW veF veP vsF vsN vsD juM juP juTN juTD juO scN scD noF noN noD neF neN neD arP arB arM arU arF arR arL arT arA arS leN leD grN grD arH arLU arGU shN shD stF stN stD rest) (.inl none) (MC s0 s1 handN handD gT gF alE actions alM fiF fiN fiD epN epD goH goN goD plS plP plM plA plBN plBD plLN plLD plR veW veF veP vsF vsN vsD juM juP juTN juTD juO scN scD noF noN noD neF neN neD arP arB arM arU arF arR arL arT arA arS leN leD grN grD arH arLU arGU shN shD stF stN stD (RPA rest (ab a) nd ch (fun i => ∃ j, 0 ≤ j ∧ j < 2 ∧ 0 ≤ (up1 dO t f) j ∧ i = 16 + (up1 dO t f) j) nT nF cs cT cO cH cN cD mT mF as aT aO aH aN aD cG sA (up1 dO t f) (up1 dN t (handN 0)) (up1 dD t (handD 0)))) := call_at hb hC (fun pre post z1 z2 => c_Ac_bound (by omega) z1 z2 hd ht (by omega))
  refine Cg.of (Nat.le_of_ble_eq_true rfl) ?_
  change Rg _ _ _ _ 0 [(0, .ref 2), (1, .int (iI a)), (2, .int (iI t)), (3, .int (iI f))] [] _ _ _
  refine Rg.step 1 F_PJ_last_0 rfl (fun _ => rfl) ?_
  refine Rg.step 2 F_PJ_last_1 rfl (fun _ => rfl) ?_
  refine Rg.getf 5 F_PJ_last_2 rfl rF_1_21 gC_2 rfl ?_
  refine Rg.getf 8 F_PJ_last_5 rfl rF_1_105 gC_6 rfl ?_
  refine Rg.call 11 F_PJ_last_8 rfl (one_V rM_1_109 (by decide) (by simp) rfl rfl gC_7 rfl) (Nat.le_of_ble_eq_true rfl) (Cg.any c_list_size) ?_
  refine Rg.call 14 F_PJ_last_11 rfl (one_S (by decide +kernel) rM_1_71 (by decide) (by simp) rfl rfl) (Nat.le_of_ble_eq_true rfl) (Cg.any (c_idx_ok (by omega) (by omega) (by omega))) ?_
  refine Rg.step 15 F_PJ_last_14 rfl (fun _ => rfl) ?_
  refine Rg.step 16 F_PJ_last_15 rfl (fun _ => rfl) ?_
  refine Rg.iceqI 31 19 F_PJ_last_16 rfl rfl (by omega) (by omega) (fun h16 => by omega) (fun _ => ?_)
  refine Rg.step 20 F_PJ_last_19 rfl (fun _ => rfl) ?_
  refine Rg.bip 22 F_PJ_last_20 rfl rfl ?_
  refine Rg.iceqI 31 25 F_PJ_last_22 rfl rfl (by omega) (by omega) (fun _ => ?_) (fun h22 => by omega)
  refine Rg.step 32 F_PJ_last_31 rfl (fun _ => rfl) ?_
  refine Rg.step 33 F_PJ_last_32 rfl (fun _ => rfl) ?_
  refine Rg.step 34 F_PJ_last_33 rfl (fun _ => rfl) ?_
  refine Rg.call 37 F_PJ_last_34 rfl (one_S (by decide +kernel) rM_1_92 (by decide) (by simp) rfl rfl) (Nat.le_of_ble_eq_true rfl) (Cg.any (c_chk_ok (by omega) (by omega) (by omega) (by omega))) ?_
  refine Rg.step 38 F_PJ_last_37 rfl (fun _ => rfl) ?_
  refine Rg.getf 41 F_PJ_last_38 rfl rF_1_21 gC_2 rfl ?_
  refine Rg.getf 44 F_PJ_last_41 rfl rF_1_105 gC_6 rfl ?_
  refine Rg.step 45 F_PJ_last_44 rfl (fun _ => rfl) ?_
  refine Rg.call 48 F_PJ_last_45 rfl (one_V rM_1_125 (by decide) (by simp) rfl rfl gC_7 rfl) (Nat.le_of_ble_eq_true rfl) (Cg.any (c_list_get hO wA ha.1 ha.2)) ?_
  refine Rg.cast 51 F_PJ_last_48 rfl rC_1_118 (gA_0 hC) ?_
  refine Rg.step 52 F_PJ_last_51 rfl (fun _ => rfl) ?_
  refine Rg.step 53 F_PJ_last_52 rfl (fun _ => rfl) ?_
  refine Rg.step 54 F_PJ_last_53 rfl (fun _ => rfl) ?_
  refine Rg.getf 57 F_PJ_last_54 rfl rF_1_12 gC_2 rfl ?_
  refine Rg.call 60 F_PJ_last_57 rfl (one_V rM_1_156 (by decide) (by simp) rfl rfl (gA_0 hC) rfl) (Nat.le_of_ble_eq_true rfl) hx ?_
  exact Rg.retV F_PJ_last_60 rfl rfl
theorem r_PJ_need_a {d : Nat} (wA : 0 ≤ actions ∧ actions ≤ 12) (b_a : -2147483648 ≤ a ∧ a < 2147483648) (b_t : -2147483648 ≤ t ∧ t < 2147483648) (b_f : -2147483648 ≤ f ∧ f < 2147483648) (ha : ¬ (0 ≤ a ∧ a < actions)) : Cg true (d + 1) m_PJ_need [.ref 2, .int (iI a), .int (iI t), .int (iI f), .int (bP v)] (MC s0 s1 handN handD gT gF alE actions alM fiF fiN fiD epN epD goH goN goD plS plP plM plA plBN plBD plLN plLD plR veW veF veP vsF vsN vsD juM juP juTN juTD juO scN scD noF noN noD neF neN neD arP arB arM arU arF arR arL arT arA arS leN leD grN grD arH arLU arGU shN shD stF stN stD rest) (.inr (MC s0 s1 handN handD gT gF alE actions alM fiF fiN fiD epN epD goH goN goD plS plP plM plA plBN plBD plLN plLD plR veW veF veP vsF vsN vsD juM juP juTN juTD juO scN scD noF noN noD neF neN neD arP arB arM arU arF arR arL arT arA arS leN leD grN grD arH arLU arGU shN shD stF stN stD rest).length) ((MC s0 s1 handN handD gT gF alE actions alM fiF fiN fiD epN epD goH goN goD plS plP plM plA plBN plBD plLN plLD plR veW veF veP vsF vsN vsD juM juP juTN juTD juO scN scD noF noN noD neF neN neD arP arB arM arU arF arR arL arT arA arS leN leD grN grD arH arLU arGU shN shD stF stN stD rest) ++ [.inr (13, [])]) := by
  refine Cg.of (Nat.le_of_ble_eq_true rfl) ?_
  change Rg _ _ _ _ 0 [(0, .ref 2), (1, .int (iI a)), (2, .int (iI t)), (3, .int (iI f)), (4, .int (bP v))] [] _ _ _
  refine Rg.step 1 F_PJ_need_0 rfl (fun _ => rfl) ?_
  refine Rg.step 2 F_PJ_need_1 rfl (fun _ => rfl) ?_
  refine Rg.getf 5 F_PJ_need_2 rfl rF_1_21 gC_2 rfl ?_
  refine Rg.getf 8 F_PJ_need_5 rfl rF_1_105 gC_6 rfl ?_
  refine Rg.call 11 F_PJ_need_8 rfl (one_V rM_1_109 (by decide) (by simp) rfl rfl gC_7 rfl) (Nat.le_of_ble_eq_true rfl) (Cg.any c_list_size) ?_
  exact Rg.callT F_PJ_need_11 (one_S (by decide +kernel) rM_1_71 (by decide) (by simp) rfl rfl) (Nat.le_of_ble_eq_true rfl) (c_idx_no (by omega) (by omega) (by omega)) gX rfl
theorem r_PJ_need_b {d : Nat} (wA : 0 ≤ actions ∧ actions ≤ 12) (b_a : -2147483648 ≤ a ∧ a < 2147483648) (b_t : -2147483648 ≤ t ∧ t < 2147483648) (b_f : -2147483648 ≤ f ∧ f < 2147483648) (ha : 0 ≤ a ∧ a < actions) (hf : ¬ (0 ≤ f ∧ f ≤ 15)) : Cg true (d + 1) m_PJ_need [.ref 2, .int (iI a), .int (iI t), .int (iI f), .int (bP v)] (MC s0 s1 handN handD gT gF alE actions alM fiF fiN fiD epN epD goH goN goD plS plP plM plA plBN plBD plLN plLD plR veW veF veP vsF vsN vsD juM juP juTN juTD juO scN scD noF noN noD neF neN neD arP arB arM arU arF arR arL arT arA arS leN leD grN grD arH arLU arGU shN shD stF stN stD rest) (.inr (MC s0 s1 handN handD gT gF alE actions alM fiF fiN fiD epN epD goH goN goD plS plP plM plA plBN plBD plLN plLD plR veW veF veP vsF vsN vsD juM juP juTN juTD juO scN scD noF noN noD neF neN neD arP arB arM arU arF arR arL arT arA arS leN leD grN grD arH arLU arGU shN shD stF stN stD rest).length) ((MC s0 s1 handN handD gT gF alE actions alM fiF fiN fiD epN epD goH goN goD plS plP plM plA plBN plBD plLN plLD plR veW veF veP vsF vsN vsD juM juP juTN juTD juO scN scD noF noN noD neF neN neD arP arB arM arU arF arR arL arT arA arS leN leD grN grD arH arLU arGU shN shD stF stN stD rest) ++ [.inr (13, [])]) := by
  refine Cg.of (Nat.le_of_ble_eq_true rfl) ?_
  change Rg _ _ _ _ 0 [(0, .ref 2), (1, .int (iI a)), (2, .int (iI t)), (3, .int (iI f)), (4, .int (bP v))] [] _ _ _
  refine Rg.step 1 F_PJ_need_0 rfl (fun _ => rfl) ?_
  refine Rg.step 2 F_PJ_need_1 rfl (fun _ => rfl) ?_
  refine Rg.getf 5 F_PJ_need_2 rfl rF_1_21 gC_2 rfl ?_
  refine Rg.getf 8 F_PJ_need_5 rfl rF_1_105 gC_6 rfl ?_
  refine Rg.call 11 F_PJ_need_8 rfl (one_V rM_1_109 (by decide) (by simp) rfl rfl gC_7 rfl) (Nat.le_of_ble_eq_true rfl) (Cg.any c_list_size) ?_
  refine Rg.call 14 F_PJ_need_11 rfl (one_S (by decide +kernel) rM_1_71 (by decide) (by simp) rfl rfl) (Nat.le_of_ble_eq_true rfl) (Cg.any (c_idx_ok (by omega) (by omega) (by omega))) ?_
  refine Rg.step 15 F_PJ_need_14 rfl (fun _ => rfl) ?_
  refine Rg.bip 17 F_PJ_need_15 rfl rfl ?_
  exact Rg.callT F_PJ_need_17 (one_S (by decide +kernel) rM_1_71 (by decide) (by simp) rfl rfl) (Nat.le_of_ble_eq_true rfl) (c_idx_no (by omega) (by omega) (by omega)) gX rfl
theorem c_PJ_need1 {d : Nat} (wA : 0 ≤ actions ∧ actions ≤ 12) (b_a : -2147483648 ≤ a ∧ a < 2147483648) (b_t : -2147483648 ≤ t ∧ t < 2147483648) (b_f : -2147483648 ≤ f ∧ f < 2147483648) (h : ¬ (0 ≤ a ∧ a < actions) ∨ ¬ (0 ≤ f ∧ f ≤ 15)) : Cg true (d + 1) m_PJ_need [.ref 2, .int (iI a), .int (iI t), .int (iI f), .int (bP v)] (MC s0 s1 handN handD gT gF alE actions alM fiF fiN fiD epN epD goH goN goD plS plP plM plA plBN plBD plLN plLD plR veW veF veP vsF vsN vsD juM juP juTN juTD juO scN scD noF noN noD neF neN neD arP arB arM arU arF arR arL arT arA arS leN leD grN grD arH arLU arGU shN shD stF stN stD rest) (.inr (MC s0 s1 handN handD gT gF alE actions alM fiF fiN fiD epN epD goH goN goD plS plP plM plA plBN plBD plLN plLD plR veW veF veP vsF vsN vsD juM juP juTN juTD juO scN scD noF noN noD neF neN neD arP arB arM arU arF arR arL arT arA arS leN leD grN grD arH arLU arGU shN shD stF stN stD rest).length) ((MC s0 s1 handN handD gT gF alE actions alM fiF fiN fiD epN epD goH goN goD plS plP plM plA plBN plBD plLN plLD plR veW veF veP vsF vsN vsD juM juP juTN juTD juO scN scD noF noN noD neF neN neD arP arB arM arU arF arR arL arT arA arS leN leD grN grD arH arLU arGU shN shD stF stN stD rest) ++ [.inr (13, [])]) := by
  by_cases ha : 0 ≤ a ∧ a < actions
  · exact r_PJ_need_b wA b_a b_t b_f ha (h.resolve_left (fun z => z ha))
  · exact r_PJ_need_a wA b_a b_t b_f ha
theorem r_PJ_compare_a {d : Nat} (wA : 0 ≤ actions ∧ actions ≤ 12) (b_a : -2147483648 ≤ a ∧ a < 2147483648) (b_t : -2147483648 ≤ t ∧ t < 2147483648) (b_f : -2147483648 ≤ f ∧ f < 2147483648) (b_how : -2147483648 ≤ how ∧ how < 2147483648) (ha : ¬ (0 ≤ a ∧ a < actions)) : Cg true (d + 1) m_PJ_compare [.ref 2, .int (iI a), .int (iI t), .int (iI f), .int (iI how)] (MC s0 s1 handN handD gT gF alE actions alM fiF fiN fiD epN epD goH goN goD plS plP plM plA plBN plBD plLN plLD plR veW veF veP vsF vsN vsD juM juP juTN juTD juO scN scD noF noN noD neF neN neD arP arB arM arU arF arR arL arT arA arS leN leD grN grD arH arLU arGU shN shD stF stN stD rest) (.inr (MC s0 s1 handN handD gT gF alE actions alM fiF fiN fiD epN epD goH goN goD plS plP plM plA plBN plBD plLN plLD plR veW veF veP vsF vsN vsD juM juP juTN juTD juO scN scD noF noN noD neF neN neD arP arB arM arU arF arR arL arT arA arS leN leD grN grD arH arLU arGU shN shD stF stN stD rest).length) ((MC s0 s1 handN handD gT gF alE actions alM fiF fiN fiD epN epD goH goN goD plS plP plM plA plBN plBD plLN plLD plR veW veF veP vsF vsN vsD juM juP juTN juTD juO scN scD noF noN noD neF neN neD arP arB arM arU arF arR arL arT arA arS leN leD grN grD arH arLU arGU shN shD stF stN stD rest) ++ [.inr (13, [])]) := by
  refine Cg.of (Nat.le_of_ble_eq_true rfl) ?_
  change Rg _ _ _ _ 0 [(0, .ref 2), (1, .int (iI a)), (2, .int (iI t)), (3, .int (iI f)), (4, .int (iI how))] [] _ _ _
  refine Rg.step 1 F_PJ_compare_0 rfl (fun _ => rfl) ?_
  refine Rg.step 2 F_PJ_compare_1 rfl (fun _ => rfl) ?_
  refine Rg.getf 5 F_PJ_compare_2 rfl rF_1_21 gC_2 rfl ?_
  refine Rg.getf 8 F_PJ_compare_5 rfl rF_1_105 gC_6 rfl ?_
  refine Rg.call 11 F_PJ_compare_8 rfl (one_V rM_1_109 (by decide) (by simp) rfl rfl gC_7 rfl) (Nat.le_of_ble_eq_true rfl) (Cg.any c_list_size) ?_
  exact Rg.callT F_PJ_compare_11 (one_S (by decide +kernel) rM_1_71 (by decide) (by simp) rfl rfl) (Nat.le_of_ble_eq_true rfl) (c_idx_no (by omega) (by omega) (by omega)) gX rfl
theorem r_PJ_compare_b {d : Nat} (wA : 0 ≤ actions ∧ actions ≤ 12) (b_a : -2147483648 ≤ a ∧ a < 2147483648) (b_t : -2147483648 ≤ t ∧ t < 2147483648) (b_f : -2147483648 ≤ f ∧ f < 2147483648) (b_how : -2147483648 ≤ how ∧ how < 2147483648) (ha : 0 ≤ a ∧ a < actions) (hf : ¬ (0 ≤ f ∧ f ≤ 7)) : Cg true (d + 1) m_PJ_compare [.ref 2, .int (iI a), .int (iI t), .int (iI f), .int (iI how)] (MC s0 s1 handN handD gT gF alE actions alM fiF fiN fiD epN epD goH goN goD plS plP plM plA plBN plBD plLN plLD plR veW veF veP vsF vsN vsD juM juP juTN juTD juO scN scD noF noN noD neF neN neD arP arB arM arU arF arR arL arT arA arS leN leD grN grD arH arLU arGU shN shD stF stN stD rest) (.inr (MC s0 s1 handN handD gT gF alE actions alM fiF fiN fiD epN epD goH goN goD plS plP plM plA plBN plBD plLN plLD plR veW veF veP vsF vsN vsD juM juP juTN juTD juO scN scD noF noN noD neF neN neD arP arB arM arU arF arR arL arT arA arS leN leD grN grD arH arLU arGU shN shD stF stN stD rest).length) ((MC s0 s1 handN handD gT gF alE actions alM fiF fiN fiD epN epD goH goN goD plS plP plM plA plBN plBD plLN plLD plR veW veF veP vsF vsN vsD juM juP juTN juTD juO scN scD noF noN noD neF neN neD arP arB arM arU arF arR arL arT arA arS leN leD grN grD arH arLU arGU shN shD stF stN stD rest) ++ [.inr (13, [])]) := by
  refine Cg.of (Nat.le_of_ble_eq_true rfl) ?_
  change Rg _ _ _ _ 0 [(0, .ref 2), (1, .int (iI a)), (2, .int (iI t)), (3, .int (iI f)), (4, .int (iI how))] [] _ _ _
  refine Rg.step 1 F_PJ_compare_0 rfl (fun _ => rfl) ?_
  refine Rg.step 2 F_PJ_compare_1 rfl (fun _ => rfl) ?_
  refine Rg.getf 5 F_PJ_compare_2 rfl rF_1_21 gC_2 rfl ?_
  refine Rg.getf 8 F_PJ_compare_5 rfl rF_1_105 gC_6 rfl ?_
  refine Rg.call 11 F_PJ_compare_8 rfl (one_V rM_1_109 (by decide) (by simp) rfl rfl gC_7 rfl) (Nat.le_of_ble_eq_true rfl) (Cg.any c_list_size) ?_
  refine Rg.call 14 F_PJ_compare_11 rfl (one_S (by decide +kernel) rM_1_71 (by decide) (by simp) rfl rfl) (Nat.le_of_ble_eq_true rfl) (Cg.any (c_idx_ok (by omega) (by omega) (by omega))) ?_
  refine Rg.step 15 F_PJ_compare_14 rfl (fun _ => rfl) ?_
  refine Rg.bip 17 F_PJ_compare_15 rfl rfl ?_
  exact Rg.callT F_PJ_compare_17 (one_S (by decide +kernel) rM_1_71 (by decide) (by simp) rfl rfl) (Nat.le_of_ble_eq_true rfl) (c_idx_no (by omega) (by omega) (by omega)) gX rfl
theorem c_PJ_compare1 {d : Nat} (wA : 0 ≤ actions ∧ actions ≤ 12) (b_a : -2147483648 ≤ a ∧ a < 2147483648) (b_t : -2147483648 ≤ t ∧ t < 2147483648) (b_f : -2147483648 ≤ f ∧ f < 2147483648) (b_how : -2147483648 ≤ how ∧ how < 2147483648) (h : ¬ (0 ≤ a ∧ a < actions) ∨ ¬ (0 ≤ f ∧ f ≤ 7)) : Cg true (d + 1) m_PJ_compare [.ref 2, .int (iI a), .int (iI t), .int (iI f), .int (iI how)] (MC s0 s1 handN handD gT gF alE actions alM fiF fiN fiD epN epD goH goN goD plS plP plM plA plBN plBD plLN plLD plR veW veF veP vsF vsN vsD juM juP juTN juTD juO scN scD noF noN noD neF neN neD arP arB arM arU arF arR arL arT arA arS leN leD grN grD arH arLU arGU shN shD stF stN stD rest) (.inr (MC s0 s1 handN handD gT gF alE actions alM fiF fiN fiD epN epD goH goN goD plS plP plM plA plBN plBD plLN plLD plR veW veF veP vsF vsN vsD juM juP juTN juTD juO scN scD noF noN noD neF neN neD arP arB arM arU arF arR arL arT arA arS leN leD grN grD arH arLU arGU shN shD stF stN stD rest).length) ((MC s0 s1 handN handD gT gF alE actions alM fiF fiN fiD epN epD goH goN goD plS plP plM plA plBN plBD plLN plLD plR veW veF veP vsF vsN vsD juM juP juTN juTD juO scN scD noF noN noD neF neN neD arP arB arM arU arF arR arL arT arA arS leN leD grN grD arH arLU arGU shN shD stF stN stD rest) ++ [.inr (13, [])]) := by
  by_cases ha : 0 ≤ a ∧ a < actions
  · exact r_PJ_compare_b wA b_a b_t b_f b_how ha (h.resolve_left (fun z => z ha))
  · exact r_PJ_compare_a wA b_a b_t b_f b_how ha
theorem r_PJ_make_a {d : Nat} (wA : 0 ≤ actions ∧ actions ≤ 12) (b_a : -2147483648 ≤ a ∧ a < 2147483648) (b_t : -2147483648 ≤ t ∧ t < 2147483648) (b_f : -2147483648 ≤ f ∧ f < 2147483648) (ha : ¬ (0 ≤ a ∧ a < actions)) : Cg true (d + 1) m_PJ_make [.ref 2, .int (iI a), .int (iI t), .int (iI f), .int (bP v)] (MC s0 s1 handN handD gT gF alE actions alM fiF fiN fiD epN epD goH goN goD plS plP plM plA plBN plBD plLN plLD plR veW veF veP vsF vsN vsD juM juP juTN juTD juO scN scD noF noN noD neF neN neD arP arB arM arU arF arR arL arT arA arS leN leD grN grD arH arLU arGU shN shD stF stN stD rest) (.inr (MC s0 s1 handN handD gT gF alE actions alM fiF fiN fiD epN epD goH goN goD plS plP plM plA plBN plBD plLN plLD plR veW veF veP vsF vsN vsD juM juP juTN juTD juO scN scD noF noN noD neF neN neD arP arB arM arU arF arR arL arT arA arS leN leD grN grD arH arLU arGU shN shD stF stN stD rest).length) ((MC s0 s1 handN handD gT gF alE actions alM fiF fiN fiD epN epD goH goN goD plS plP plM plA plBN plBD plLN plLD plR veW veF veP vsF vsN vsD juM juP juTN juTD juO scN scD noF noN noD neF neN neD arP arB arM arU arF arR arL arT arA arS leN leD grN grD arH arLU arGU shN shD stF stN stD rest) ++ [.inr (13, [])]) := by
  refine Cg.of (Nat.le_of_ble_eq_true rfl) ?_
  change Rg _ _ _ _ 0 [(0, .ref 2), (1, .int (iI a)), (2, .int (iI t)), (3, .int (iI f)), (4, .int (bP v))] [] _ _ _
  refine Rg.step 1 F_PJ_make_0 rfl (fun _ => rfl) ?_
  refine Rg.step 2 F_PJ_make_1 rfl (fun _ => rfl) ?_
  refine Rg.getf 5 F_PJ_make_2 rfl rF_1_21 gC_2 rfl ?_
  refine Rg.getf 8 F_PJ_make_5 rfl rF_1_105 gC_6 rfl ?_
  refine Rg.call 11 F_PJ_make_8 rfl (one_V rM_1_109 (by decide) (by simp) rfl rfl gC_7 rfl) (Nat.le_of_ble_eq_true rfl) (Cg.any c_list_size) ?_
  exact Rg.callT F_PJ_make_11 (one_S (by decide +kernel) rM_1_71 (by decide) (by simp) rfl rfl) (Nat.le_of_ble_eq_true rfl) (c_idx_no (by omega) (by omega) (by omega)) gX rfl
theorem r_PJ_make_b {d : Nat} (wA : 0 ≤ actions ∧ actions ≤ 12) (b_a : -2147483648 ≤ a ∧ a < 2147483648) (b_t : -2147483648 ≤ t ∧ t < 2147483648) (b_f : -2147483648 ≤ f ∧ f < 2147483648) (ha : 0 ≤ a ∧ a < actions) (hf : ¬ (0 ≤ f ∧ f ≤ 15)) : Cg true (d + 1) m_PJ_make [.ref 2, .int (iI a), .int (iI t), .int (iI f), .int (bP v)] (MC s0 s1 handN handD gT gF alE actions alM fiF fiN fiD epN epD goH goN goD plS plP plM plA plBN plBD plLN plLD plR veW veF veP vsF vsN vsD juM juP juTN juTD juO scN scD noF noN noD neF neN neD arP arB arM arU arF arR arL arT arA arS leN leD grN grD arH arLU arGU shN shD stF stN stD rest) (.inr (MC s0 s1 handN handD gT gF alE actions alM fiF fiN fiD epN epD goH goN goD plS plP plM plA plBN plBD plLN plLD plR veW veF veP vsF vsN vsD juM juP juTN juTD juO scN scD noF noN noD neF neN neD arP arB arM arU arF arR arL arT arA arS leN leD grN grD arH arLU arGU shN shD stF stN stD rest).length) ((MC s0 s1 handN handD gT gF alE actions alM fiF fiN fiD epN epD goH goN goD plS plP plM plA plBN plBD plLN plLD plR veW veF veP vsF vsN vsD juM juP juTN juTD juO scN scD noF noN noD neF neN neD arP arB arM arU arF arR arL arT arA arS leN leD grN grD arH arLU arGU shN shD stF stN stD rest) ++ [.inr (13, [])]) := by
  refine Cg.of (Nat.le_of_ble_eq_true rfl) ?_
  change Rg _ _ _ _ 0 [(0, .ref 2), (1, .int (iI a)), (2, .int (iI t)), (3, .int (iI f)), (4, .int (bP v))] [] _ _ _
  refine Rg.step 1 F_PJ_make_0 rfl (fun _ => rfl) ?_
  refine Rg.step 2 F_PJ_make_1 rfl (fun _ => rfl) ?_
  refine Rg.getf 5 F_PJ_make_2 rfl rF_1_21 gC_2 rfl ?_
  refine Rg.getf 8 F_PJ_make_5 rfl rF_1_105 gC_6 rfl ?_
  refine Rg.call 11 F_PJ_make_8 rfl (one_V rM_1_109 (by decide) (by simp) rfl rfl gC_7 rfl) (Nat.le_of_ble_eq_true rfl) (Cg.any c_list_size) ?_
  refine Rg.call 14 F_PJ_make_11 rfl (one_S (by decide +kernel) rM_1_71 (by decide) (by simp) rfl rfl) (Nat.le_of_ble_eq_true rfl) (Cg.any (c_idx_ok (by omega) (by omega) (by omega))) ?_
  refine Rg.step 15 F_PJ_make_14 rfl (fun _ => rfl) ?_
  refine Rg.bip 17 F_PJ_make_15 rfl rfl ?_
  exact Rg.callT F_PJ_make_17 (one_S (by decide +kernel) rM_1_71 (by decide) (by simp) rfl rfl) (Nat.le_of_ble_eq_true rfl) (c_idx_no (by omega) (by omega) (by omega)) gX rfl
theorem c_PJ_make1 {d : Nat} (wA : 0 ≤ actions ∧ actions ≤ 12) (b_a : -2147483648 ≤ a ∧ a < 2147483648) (b_t : -2147483648 ≤ t ∧ t < 2147483648) (b_f : -2147483648 ≤ f ∧ f < 2147483648) (h : ¬ (0 ≤ a ∧ a < actions) ∨ ¬ (0 ≤ f ∧ f ≤ 15)) : Cg true (d + 1) m_PJ_make [.ref 2, .int (iI a), .int (iI t), .int (iI f), .int (bP v)] (MC s0 s1 handN handD gT gF alE actions alM fiF fiN fiD epN epD goH goN goD plS plP plM plA plBN plBD plLN plLD plR veW veF veP vsF vsN vsD juM juP juTN juTD juO scN scD noF noN noD neF neN neD arP arB arM arU arF arR arL arT arA arS leN leD grN grD arH arLU arGU shN shD stF stN stD rest) (.inr (MC s0 s1 handN handD gT gF alE actions alM fiF fiN fiD epN epD goH goN goD plS plP plM plA plBN plBD plLN plLD plR veW veF veP vsF vsN vsD juM juP juTN juTD juO scN scD noF noN noD neF neN neD arP arB arM arU arF arR arL arT arA arS leN leD grN grD arH arLU arGU shN shD stF stN stD rest).length) ((MC s0 s1 handN handD gT gF alE actions alM fiF fiN fiD epN epD goH goN goD plS plP plM plA plBN plBD plLN plLD plR veW veF veP vsF vsN vsD juM juP juTN juTD juO scN scD noF noN noD neF neN neD arP arB arM arU arF arR arL arT arA arS leN leD grN grD arH arLU arGU shN shD stF stN stD rest) ++ [.inr (13, [])]) := by
  by_cases ha : 0 ≤ a ∧ a < actions
  · exact r_PJ_make_b wA b_a b_t b_f ha (h.resolve_left (fun z => z ha))
  · exact r_PJ_make_a wA b_a b_t b_f ha
theorem r_PJ_change_a {d : Nat} (wA : 0 ≤ actions ∧ actions ≤ 12) (b_a : -2147483648 ≤ a ∧ a < 2147483648) (b_t : -2147483648 ≤ t ∧ t < 2147483648) (b_f : -2147483648 ≤ f ∧ f < 2147483648) (b_how : -2147483648 ≤ how ∧ how < 2147483648) (ha : ¬ (0 ≤ a ∧ a < actions)) : Cg true (d + 1) m_PJ_change [.ref 2, .int (iI a), .int (iI t), .int (iI f), .int (iI how)] (MC s0 s1 handN handD gT gF alE actions alM fiF fiN fiD epN epD goH goN goD plS plP plM plA plBN plBD plLN plLD plR veW veF veP vsF vsN vsD juM juP juTN juTD juO scN scD noF noN noD neF neN neD arP arB arM arU arF arR arL arT arA arS leN leD grN grD arH arLU arGU shN shD stF stN stD rest) (.inr (MC s0 s1 handN handD gT gF alE actions alM fiF fiN fiD epN epD goH goN goD plS plP plM plA plBN plBD plLN plLD plR veW veF veP vsF vsN vsD juM juP juTN juTD juO scN scD noF noN noD neF neN neD arP arB arM arU arF arR arL arT arA arS leN leD grN grD arH arLU arGU shN shD stF stN stD rest).length) ((MC s0 s1 handN handD gT gF alE actions alM fiF fiN fiD epN epD goH goN goD plS plP plM plA plBN plBD plLN plLD plR veW veF veP vsF vsN vsD juM juP juTN juTD juO scN scD noF noN noD neF neN neD arP arB arM arU arF arR arL arT arA arS leN leD grN grD arH arLU arGU shN shD stF stN stD rest) ++ [.inr (13, [])]) := by
  refine Cg.of (Nat.le_of_ble_eq_true rfl) ?_
  change Rg _ _ _ _ 0 [(0, .ref 2), (1, .int (iI a)), (2, .int (iI t)), (3, .int (iI f)), (4, .int (iI how))] [] _ _ _
  refine Rg.step 1 F_PJ_change_0 rfl (fun _ => rfl) ?_
  refine Rg.step 2 F_PJ_change_1 rfl (fun _ => rfl) ?_
  refine Rg.getf 5 F_PJ_change_2 rfl rF_1_21 gC_2 rfl ?_
  refine Rg.getf 8 F_PJ_change_5 rfl rF_1_105 gC_6 rfl ?_
  refine Rg.call 11 F_PJ_change_8 rfl (one_V rM_1_109 (by decide) (by simp) rfl rfl gC_7 rfl) (Nat.le_of_ble_eq_true rfl) (Cg.any c_list_size) ?_
  exact Rg.callT F_PJ_change_11 (one_S (by decide +kernel) rM_1_71 (by decide) (by simp) rfl rfl) (Nat.le_of_ble_eq_true rfl) (c_idx_no (by omega) (by omega) (by omega)) gX rfl
theorem r_PJ_change_b {d : Nat} (wA : 0 ≤ actions ∧ actions ≤ 12) (b_a : -2147483648 ≤ a ∧ a < 2147483648) (b_t : -2147483648 ≤ t ∧ t < 2147483648) (b_f : -2147483648 ≤ f ∧ f < 2147483648) (b_how : -2147483648 ≤ how ∧ how < 2147483648) (ha : 0 ≤ a ∧ a < actions) (hf : ¬ (0 ≤ f ∧ f ≤ 7)) : Cg true (d + 1) m_PJ_change [.ref 2, .int (iI a), .int (iI t), .int (iI f), .int (iI how)] (MC s0 s1 handN handD gT gF alE actions alM fiF fiN fiD epN epD goH goN goD plS plP plM plA plBN plBD plLN plLD plR veW veF veP vsF vsN vsD juM juP juTN juTD juO scN scD noF noN noD neF neN neD arP arB arM arU arF arR arL arT arA arS leN leD grN grD arH arLU arGU shN shD stF stN stD rest) (.inr (MC s0 s1 handN handD gT gF alE actions alM fiF fiN fiD epN epD goH goN goD plS plP plM plA plBN plBD plLN plLD plR veW veF veP vsF vsN vsD juM juP juTN juTD juO scN scD noF noN noD neF neN neD arP arB arM arU arF arR arL arT arA arS leN leD grN grD arH arLU arGU shN shD stF stN stD rest).length) ((MC s0 s1 handN handD gT gF alE actions alM fiF fiN fiD epN epD goH goN goD plS plP plM plA plBN plBD plLN plLD plR veW veF veP vsF vsN vsD juM juP juTN juTD juO scN scD noF noN noD neF neN neD arP arB arM arU arF arR arL arT arA arS leN leD grN grD arH arLU arGU shN shD stF stN stD rest) ++ [.inr (13, [])]) := by
  refine Cg.of (Nat.le_of_ble_eq_true rfl) ?_
  change Rg _ _ _ _ 0 [(0, .ref 2), (1, .int (iI a)), (2, .int (iI t)), (3, .int (iI f)), (4, .int (iI how))] [] _ _ _
  refine Rg.step 1 F_PJ_change_0 rfl (fun _ => rfl) ?_
  refine Rg.step 2 F_PJ_change_1 rfl (fun _ => rfl) ?_
  refine Rg.getf 5 F_PJ_change_2 rfl rF_1_21 gC_2 rfl ?_
  refine Rg.getf 8 F_PJ_change_5 rfl rF_1_105 gC_6 rfl ?_
  refine Rg.call 11 F_PJ_change_8 rfl (one_V rM_1_109 (by decide) (by simp) rfl rfl gC_7 rfl) (Nat.le_of_ble_eq_true rfl) (Cg.any c_list_size) ?_
  refine Rg.call 14 F_PJ_change_11 rfl (one_S (by decide +kernel) rM_1_71 (by decide) (by simp) rfl rfl) (Nat.le_of_ble_eq_true rfl) (Cg.any (c_idx_ok (by omega) (by omega) (by omega))) ?_
  refine Rg.step 15 F_PJ_change_14 rfl (fun _ => rfl) ?_
  refine Rg.bip 17 F_PJ_change_15 rfl rfl ?_
  exact Rg.callT F_PJ_change_17 (one_S (by decide +kernel) rM_1_71 (by decide) (by simp) rfl rfl) (Nat.le_of_ble_eq_true rfl) (c_idx_no (by omega) (by omega) (by omega)) gX rfl
theorem c_PJ_change1 {d : Nat} (wA : 0 ≤ actions ∧ actions ≤ 12) (b_a : -2147483648 ≤ a ∧ a < 2147483648) (b_t : -2147483648 ≤ t ∧ t < 2147483648) (b_f : -2147483648 ≤ f ∧ f < 2147483648) (b_how : -2147483648 ≤ how ∧ how < 2147483648) (h : ¬ (0 ≤ a ∧ a < actions) ∨ ¬ (0 ≤ f ∧ f ≤ 7)) : Cg true (d + 1) m_PJ_change [.ref 2, .int (iI a), .int (iI t), .int (iI f), .int (iI how)] (MC s0 s1 handN handD gT gF alE actions alM fiF fiN fiD epN epD goH goN goD plS plP plM plA plBN plBD plLN plLD plR veW veF veP vsF vsN vsD juM juP juTN juTD juO scN scD noF noN noD neF neN neD arP arB arM arU arF arR arL arT arA arS leN leD grN grD arH arLU arGU shN shD stF stN stD rest) (.inr (MC s0 s1 handN handD gT gF alE actions alM fiF fiN fiD epN epD goH goN goD plS plP plM plA plBN plBD plLN plLD plR veW veF veP vsF vsN vsD juM juP juTN juTD juO scN scD noF noN noD neF neN neD arP arB arM arU arF arR arL arT arA arS leN leD grN grD arH arLU arGU shN shD stF stN stD rest).length) ((MC s0 s1 handN handD gT gF alE actions alM fiF fiN fiD epN epD goH goN goD plS plP plM plA plBN plBD plLN plLD plR veW veF veP vsF vsN vsD juM juP juTN juTD juO scN scD noF noN noD neF neN neD arP arB arM arU arF arR arL arT arA arS leN leD grN grD arH arLU arGU shN shD stF stN stD rest) ++ [.inr (13, [])]) := by
  by_cases ha : 0 ≤ a ∧ a < actions
  · exact r_PJ_change_b wA b_a b_t b_f b_how ha (h.resolve_left (fun z => z ha))
  · exact r_PJ_change_a wA b_a b_t b_f b_how ha
theorem c_PJ_need2 {d : Nat} (wA : 0 ≤ actions ∧ actions ≤ 12) (b_a : -2147483648 ≤ a ∧ a < 2147483648) (b_t : -2147483648 ≤ t ∧ t < 2147483648) (b_f : -2147483648 ≤ f ∧ f < 2147483648) (ha : 0 ≤ a ∧ a < actions) (hf : 0 ≤ f ∧ f ≤ 15) (ht : ¬ (0 ≤ t ∧ t ≤ 2)) : Cg true (d + 1) m_PJ_need [.ref 2, .int (iI a), .int (iI t), .int (iI f), .int (bP v)] (MC s0 s1 handN handD gT gF alE actions alM fiF fiN fiD epN epD goH goN goD plS plP plM plA plBN plBD plLN plLD plR veW veF veP vsF vsN vsD juM juP juTN juTD juO scN scD noF noN noD neF neN neD arP arB arM arU arF arR arL arT arA arS leN leD grN grD arH arLU arGU shN shD stF stN stD rest) (.inr (MC s0 s1 handN handD gT gF alE actions alM fiF fiN fiD epN epD goH goN goD plS plP plM plA plBN plBD plLN plLD plR veW veF veP vsF vsN vsD juM juP juTN juTD juO scN scD noF noN noD neF neN neD arP arB arM arU arF arR arL arT arA arS leN leD grN grD arH arLU arGU shN shD stF stN stD rest).length) ((MC s0 s1 handN handD gT gF alE actions alM fiF fiN fiD epN epD goH goN goD plS plP plM plA plBN plBD plLN plLD plR veW veF veP vsF vsN vsD juM juP juTN juTD juO scN scD noF noN noD neF neN neD arP arB arM arU arF arR arL arT arA arS leN leD grN grD arH arLU arGU shN shD stF stN stD rest) ++ [.inr (12, [])]) := by
  refine Cg.of (Nat.le_of_ble_eq_true rfl) ?_
  change Rg _ _ _ _ 0 [(0, .ref 2), (1, .int (iI a)), (2, .int (iI t)), (3, .int (iI f)), (4, .int (bP v))] [] _ _ _
  refine Rg.step 1 F_PJ_need_0 rfl (fun _ => rfl) ?_
  refine Rg.step 2 F_PJ_need_1 rfl (fun _ => rfl) ?_
  refine Rg.getf 5 F_PJ_need_2 rfl rF_1_21 gC_2 rfl ?_
  refine Rg.getf 8 F_PJ_need_5 rfl rF_1_105 gC_6 rfl ?_
  refine Rg.call 11 F_PJ_need_8 rfl (one_V rM_1_109 (by decide) (by simp) rfl rfl gC_7 rfl) (Nat.le_of_ble_eq_true rfl) (Cg.any c_list_size) ?_
  refine Rg.call 14 F_PJ_need_11 rfl (one_S (by decide +kernel) rM_1_71 (by decide) (by simp) rfl rfl) (Nat.le_of_ble_eq_true rfl) (Cg.any (c_idx_ok (by omega) (by omega) (by omega))) ?_
  refine Rg.step 15 F_PJ_need_14 rfl (fun _ => rfl) ?_
  refine Rg.bip 17 F_PJ_need_15 rfl rfl ?_
  refine Rg.call 20 F_PJ_need_17 rfl (one_S (by decide +kernel) rM_1_71 (by decide) (by simp) rfl rfl) (Nat.le_of_ble_eq_true rfl) (Cg.any (c_idx_ok (by omega) (by omega) (by omega))) ?_
  refine Rg.step 21 F_PJ_need_20 rfl (fun _ => rfl) ?_
  refine Rg.step 22 F_PJ_need_21 rfl (fun _ => rfl) ?_
  refine Rg.step 23 F_PJ_need_22 rfl (fun _ => rfl) ?_
  exact Rg.callT F_PJ_need_23 (one_S (by decide +kernel) rM_1_92 (by decide) (by simp) rfl rfl) (Nat.le_of_ble_eq_true rfl) (c_chk_no (by omega) (by omega) (by omega) (by omega)) gX rfl
theorem r_PJ_compare_t {d : Nat} (wA : 0 ≤ actions ∧ actions ≤ 12) (b_a : -2147483648 ≤ a ∧ a < 2147483648) (b_t : -2147483648 ≤ t ∧ t < 2147483648) (b_f : -2147483648 ≤ f ∧ f < 2147483648) (b_how : -2147483648 ≤ how ∧ how < 2147483648) (ha : 0 ≤ a ∧ a < actions) (hf : 0 ≤ f ∧ f ≤ 7) (ht : ¬ (0 ≤ t ∧ t ≤ 2)) : Cg true (d + 1) m_PJ_compare [.ref 2, .int (iI a), .int (iI t), .int (iI f), .int (iI how)] (MC s0 s1 handN handD gT gF alE actions alM fiF fiN fiD epN epD goH goN goD plS plP plM plA plBN plBD plLN plLD plR veW veF veP vsF vsN vsD juM juP juTN juTD juO scN scD noF noN noD neF neN neD arP arB arM arU arF arR arL arT arA arS leN leD grN grD arH arLU arGU shN shD stF stN stD rest) (.inr (MC s0 s1 handN handD gT gF alE actions alM fiF fiN fiD epN epD goH goN goD plS plP plM plA plBN plBD plLN plLD plR veW veF veP vsF vsN vsD juM juP juTN juTD juO scN scD noF noN noD neF neN neD arP arB arM arU arF arR arL arT arA arS leN leD grN grD arH arLU arGU shN shD stF stN stD rest).length) ((MC s0 s1 handN handD gT gF alE actions alM fiF fiN fiD epN epD goH goN goD plS plP plM plA plBN plBD plLN plLD plR veW veF veP vsF vsN vsD juM juP juTN juTD juO scN scD noF noN noD neF neN neD arP arB arM arU arF arR arL arT arA arS leN leD grN grD arH arLU arGU shN shD stF stN stD rest) ++ [.inr (12, [])]) := by
  refine Cg.of (Nat.le_of_ble_eq_true rfl) ?_
  change Rg _ _ _ _ 0 [(0, .ref 2), (1, .int (iI a)), (2, .int (iI t)), (3, .int (iI f)), (4, .int (iI how))] [] _ _ _
  refine Rg.step 1 F_PJ_compare_0 rfl (fun _ => rfl) ?_
  refine Rg.step 2 F_PJ_compare_1 rfl (fun _ => rfl) ?_
  refine Rg.getf 5 F_PJ_compare_2 rfl rF_1_21 gC_2 rfl ?_
  refine Rg.getf 8 F_PJ_compare_5 rfl rF_1_105 gC_6 rfl ?_
  refine Rg.call 11 F_PJ_compare_8 rfl (one_V rM_1_109 (by decide) (by simp) rfl rfl gC_7 rfl) (Nat.le_of_ble_eq_true rfl) (Cg.any c_list_size) ?_
  refine Rg.call 14 F_PJ_compare_11 rfl (one_S (by decide +kernel) rM_1_71 (by decide) (by simp) rfl rfl) (Nat.le_of_ble_eq_true rfl) (Cg.any (c_idx_ok (by omega) (by omega) (by omega))) ?_
  refine Rg.step 15 F_PJ_compare_14 rfl (fun _ => rfl) ?_
  refine Rg.bip 17 F_PJ_compare_15 rfl rfl ?_
  refine Rg.call 20 F_PJ_compare_17 rfl (one_S (by decide +kernel) rM_1_71 (by decide) (by simp) rfl rfl) (Nat.le_of_ble_eq_true rfl) (Cg.any (c_idx_ok (by omega) (by omega) (by omega))) ?_
  refine Rg.step 21 F_PJ_compare_20 rfl (fun _ => rfl) ?_
  refine Rg.step 22 F_PJ_compare_21 rfl (fun _ => rfl) ?_
  refine Rg.step 23 F_PJ_compare_22 rfl (fun _ => rfl) ?_
  exact Rg.callT F_PJ_compare_23 (one_S (by decide +kernel) rM_1_92 (by decide) (by simp) rfl rfl) (Nat.le_of_ble_eq_true rfl) (c_chk_no (by omega) (by omega) (by omega) (by omega)) gX rfl
theorem r_PJ_compare_h {d : Nat} (wA : 0 ≤ actions ∧ actions ≤ 12) (b_a : -2147483648 ≤ a ∧ a < 2147483648) (b_t : -2147483648 ≤ t ∧ t < 2147483648) (b_f : -2147483648 ≤ f ∧ f < 2147483648) (b_how : -2147483648 ≤ how ∧ how < 2147483648) (ha : 0 ≤ a ∧ a < actions) (hf : 0 ≤ f ∧ f ≤ 7) (ht : 0 ≤ t ∧ t ≤ 2) (hh : ¬ (0 ≤ how ∧ how ≤ 4)) : Cg true (d + 1) m_PJ_compare [.ref 2, .int (iI a), .int (iI t), .int (iI f), .int (iI how)] (MC s0 s1 handN handD gT gF alE actions alM fiF fiN fiD epN epD goH goN goD plS plP plM plA plBN plBD plLN plLD plR veW veF veP vsF vsN vsD juM juP juTN juTD juO scN scD noF noN noD neF neN neD arP arB arM arU arF arR arL arT arA arS leN leD grN grD arH arLU arGU shN shD stF stN stD rest) (.inr (MC s0 s1 handN handD gT gF alE actions alM fiF fiN fiD epN epD goH goN goD plS plP plM plA plBN plBD plLN plLD plR veW veF veP vsF vsN vsD juM juP juTN juTD juO scN scD noF noN noD neF neN neD arP arB arM arU arF arR arL arT arA arS leN leD grN grD arH arLU arGU shN shD stF stN stD rest).length) ((MC s0 s1 handN handD gT gF alE actions alM fiF fiN fiD epN epD goH goN goD plS plP plM plA plBN plBD plLN plLD plR veW veF veP vsF vsN vsD juM juP juTN juTD juO scN scD noF noN noD neF neN neD arP arB arM arU arF arR arL arT arA arS leN leD grN grD arH arLU arGU shN shD stF stN stD rest) ++ [.inr (12, [])]) := by
  refine Cg.of (Nat.le_of_ble_eq_true rfl) ?_
  change Rg _ _ _ _ 0 [(0, .ref 2), (1, .int (iI a)), (2, .int (iI t)), (3, .int (iI f)), (4, .int (iI how))] [] _ _ _
  refine Rg.step 1 F_PJ_compare_0 rfl (fun _ => rfl) ?_
  refine Rg.step 2 F_PJ_compare_1 rfl (fun _ => rfl) ?_
  refine Rg.getf 5 F_PJ_compare_2 rfl rF_1_21 gC_2 rfl ?_
  refine Rg.getf 8 F_PJ_compare_5 rfl rF_1_105 gC_6 rfl ?_
  refine Rg.call 11 F_PJ_compare_8 rfl (one_V rM_1_109 (by decide) (by simp) rfl rfl gC_7 rfl) (Nat.le_of_ble_eq_true rfl) (Cg.any c_list_size) ?_
  refine Rg.call 14 F_PJ_compare_11 rfl (one_S (by decide +kernel) rM_1_71 (by decide) (by simp) rfl rfl) (Nat.le_of_ble_eq_true rfl) (Cg.any (c_idx_ok (by omega) (by omega) (by omega))) ?_
  refine Rg.step 15 F_PJ_compare_14 rfl (fun _ => rfl) ?_
  refine Rg.bip 17 F_PJ_compare_15 rfl rfl ?_
  refine Rg.call 20 F_PJ_compare_17 rfl (one_S (by decide +kernel) rM_1_71 (by decide) (by simp) rfl rfl) (Nat.le_of_ble_eq_true rfl) (Cg.any (c_idx_ok (by omega) (by omega) (by omega))) ?_
  refine Rg.step 21 F_PJ_compare_20 rfl (fun _ => rfl) ?_
  refine Rg.step 22 F_PJ_compare_21 rfl (fun _ => rfl) ?_
  refine Rg.step 23 F_PJ_compare_22 rfl (fun _ => rfl) ?_
  refine Rg.call 26 F_PJ_compare_23 rfl (one_S (by decide +kernel) rM_1_92 (by decide) (by simp) rfl rfl) (Nat.le_of_ble_eq_true rfl) (Cg.any (c_chk_ok (by omega) (by omega) (by omega) (by omega))) ?_
  refine Rg.step 28 F_PJ_compare_26 rfl (fun _ => rfl) ?_
  refine Rg.step 29 F_PJ_compare_28 rfl (fun _ => rfl) ?_
  refine Rg.step 30 F_PJ_compare_29 rfl (fun _ => rfl) ?_
  exact Rg.callT F_PJ_compare_30 (one_S (by decide +kernel) rM_1_92 (by decide) (by simp) rfl rfl) (Nat.le_of_ble_eq_true rfl) (c_chk_no (by omega) (by omega) (by omega) (by omega)) gX rfl
theorem c_PJ_make2 {d : Nat} (wA : 0 ≤ actions ∧ actions ≤ 12) (b_a : -2147483648 ≤ a ∧ a < 2147483648) (b_t : -2147483648 ≤ t ∧ t < 2147483648) (b_f : -2147483648 ≤ f ∧ f < 2147483648) (ha : 0 ≤ a ∧ a < actions) (hf : 0 ≤ f ∧ f ≤ 15) (ht : ¬ (t = 0 ∨ t = 2)) : Cg true (d + 1) m_PJ_make [.ref 2, .int (iI a), .int (iI t), .int (iI f), .int (bP v)] (MC s0 s1 handN handD gT gF alE actions alM fiF fiN fiD epN epD goH goN goD plS plP plM plA plBN plBD plLN plLD plR veW veF veP vsF vsN vsD juM juP juTN juTD juO scN scD noF noN noD neF neN neD arP arB arM arU arF arR arL arT arA arS leN leD grN grD arH arLU arGU shN shD stF stN stD rest) (.inr (MC s0 s1 handN handD gT gF alE actions alM fiF fiN fiD epN epD goH goN goD plS plP plM plA plBN plBD plLN plLD plR veW veF veP vsF vsN vsD juM juP juTN juTD juO scN scD noF noN noD neF neN neD arP arB arM arU arF arR arL arT arA arS leN leD grN grD arH arLU arGU shN shD stF stN stD rest).length) ((MC s0 s1 handN handD gT gF alE actions alM fiF fiN fiD epN epD goH goN goD plS plP plM plA plBN plBD plLN plLD plR veW veF veP vsF vsN vsD juM juP juTN juTD juO scN scD noF noN noD neF neN neD arP arB arM arU arF arR arL arT arA arS leN leD grN grD arH arLU arGU shN shD stF stN stD rest) ++ [.inr (12, [])]) := by
  refine Cg.of (Nat.le_of_ble_eq_true rfl) ?_
  change Rg _ _ _ _ 0 [(0, .ref 2), (1, .int (iI a)), (2, .int (iI t)), (3, .int (iI f)), (4, .int (bP v))] [] _ _ _
  refine Rg.step 1 F_PJ_make_0 rfl (fun _ => rfl) ?_
  refine Rg.step 2 F_PJ_make_1 rfl (fun _ => rfl) ?_
  refine Rg.getf 5 F_PJ_make_2 rfl rF_1_21 gC_2 rfl ?_
  refine Rg.getf 8 F_PJ_make_5 rfl rF_1_105 gC_6 rfl ?_
  refine Rg.call 11 F_PJ_make_8 rfl (one_V rM_1_109 (by decide) (by simp) rfl rfl gC_7 rfl) (Nat.le_of_ble_eq_true rfl) (Cg.any c_list_size) ?_
  refine Rg.call 14 F_PJ_make_11 rfl (one_S (by decide +kernel) rM_1_71 (by decide) (by simp) rfl rfl) (Nat.le_of_ble_eq_true rfl) (Cg.any (c_idx_ok (by omega) (by omega) (by omega))) ?_
  refine Rg.step 15 F_PJ_make_14 rfl (fun _ => rfl) ?_
  refine Rg.bip 17 F_PJ_make_15 rfl rfl ?_
  refine Rg.call 20 F_PJ_make_17 rfl (one_S (by decide +kernel) rM_1_71 (by decide) (by simp) rfl rfl) (Nat.le_of_ble_eq_true rfl) (Cg.any (c_idx_ok (by omega) (by omega) (by omega))) ?_
  refine Rg.step 21 F_PJ_make_20 rfl (fun _ => rfl) ?_
  exact Rg.callT F_PJ_make_21 (one_S (by decide +kernel) rM_1_140 (by decide) (by simp) rfl rfl) (Nat.le_of_ble_eq_true rfl) (c_toc_no (by omega) (by omega)) gX rfl
theorem r_PJ_change_t {d : Nat} (wA : 0 ≤ actions ∧ actions ≤ 12) (b_a : -2147483648 ≤ a ∧ a < 2147483648) (b_t : -2147483648 ≤ t ∧ t < 2147483648) (b_f : -2147483648 ≤ f ∧ f < 2147483648) (b_how : -2147483648 ≤ how ∧ how < 2147483648) (ha : 0 ≤ a ∧ a < actions) (hf : 0 ≤ f ∧ f ≤ 7) (ht : ¬ (t = 0 ∨ t = 2)) : Cg true (d + 1) m_PJ_change [.ref 2, .int (iI a), .int (iI t), .int (iI f), .int (iI how)] (MC s0 s1 handN handD gT gF alE actions alM fiF fiN fiD epN epD goH goN goD plS plP plM plA plBN plBD plLN plLD plR veW veF veP vsF vsN vsD juM juP juTN juTD juO scN scD noF noN noD neF neN neD arP arB arM arU arF arR arL arT arA arS leN leD grN grD arH arLU arGU shN shD stF stN stD rest) (.inr (MC s0 s1 handN handD gT gF alE actions alM fiF fiN fiD epN epD goH goN goD plS plP plM plA plBN plBD plLN plLD plR veW veF veP vsF vsN vsD juM juP juTN juTD juO scN scD noF noN noD neF neN neD arP arB arM arU arF arR arL arT arA arS leN leD grN grD arH arLU arGU shN shD stF stN stD rest).length) ((MC s0 s1 handN handD gT gF alE actions alM fiF fiN fiD epN epD goH goN goD plS plP plM plA plBN plBD plLN plLD plR veW veF veP vsF vsN vsD juM juP juTN juTD juO scN scD noF noN noD neF neN neD arP arB arM arU arF arR arL arT arA arS leN leD grN grD arH arLU arGU shN shD stF stN stD rest) ++ [.inr (12, [])]) := by
  refine Cg.of (Nat.le_of_ble_eq_true rfl) ?_
  change Rg _ _ _ _ 0 [(0, .ref 2), (1, .int (iI a)), (2, .int (iI t)), (3, .int (iI f)), (4, .int (iI how))] [] _ _ _
  refine Rg.step 1 F_PJ_change_0 rfl (fun _ => rfl) ?_
  refine Rg.step 2 F_PJ_change_1 rfl (fun _ => rfl) ?_
  refine Rg.getf 5 F_PJ_change_2 rfl rF_1_21 gC_2 rfl ?_
  refine Rg.getf 8 F_PJ_change_5 rfl rF_1_105 gC_6 rfl ?_
  refine Rg.call 11 F_PJ_change_8 rfl (one_V rM_1_109 (by decide) (by simp) rfl rfl gC_7 rfl) (Nat.le_of_ble_eq_true rfl) (Cg.any c_list_size) ?_
  refine Rg.call 14 F_PJ_change_11 rfl (one_S (by decide +kernel) rM_1_71 (by decide) (by simp) rfl rfl) (Nat.le_of_ble_eq_true rfl) (Cg.any (c_idx_ok (by omega) (by omega) (by omega))) ?_
  refine Rg.step 15 F_PJ_change_14 rfl (fun _ => rfl) ?_
  refine Rg.bip 17 F_PJ_change_15 rfl rfl ?_
  refine Rg.call 20 F_PJ_change_17 rfl (one_S (by decide +kernel) rM_1_71 (by decide) (by simp) rfl rfl) (Nat.le_of_ble_eq_true rfl) (Cg.any (c_idx_ok (by omega) (by omega) (by omega))) ?_
  refine Rg.step 21 F_PJ_change_20 rfl (fun _ => rfl) ?_
  exact Rg.callT F_PJ_change_21 (one_S (by decide +kernel) rM_1_140 (by decide) (by simp) rfl rfl) (Nat.le_of_ble_eq_true rfl) (c_toc_no (by omega) (by omega)) gX rfl
theorem r_PJ_change_h {d : Nat} (wA : 0 ≤ actions ∧ actions ≤ 12) (b_a : -2147483648 ≤ a ∧ a < 2147483648) (b_t : -2147483648 ≤ t ∧ t < 2147483648) (b_f : -2147483648 ≤ f ∧ f < 2147483648) (b_how : -2147483648 ≤ how ∧ how < 2147483648) (ha : 0 ≤ a ∧ a < actions) (hf : 0 ≤ f ∧ f ≤ 7) (ht : t = 0 ∨ t = 2) (hh : ¬ (0 ≤ how ∧ how ≤ 3)) : Cg true (d + 1) m_PJ_change [.ref 2, .int (iI a), .int (iI t), .int (iI f), .int (iI how)] (MC s0 s1 handN handD gT gF alE actions alM fiF fiN fiD epN epD goH goN goD plS plP plM plA plBN plBD plLN plLD plR veW veF veP vsF vsN vsD juM juP juTN juTD juO scN scD noF noN noD neF neN neD arP arB arM arU arF arR arL arT arA arS leN leD grN grD arH arLU arGU shN shD stF stN stD rest) (.inr (MC s0 s1 handN handD gT gF alE actions alM fiF fiN fiD epN epD goH goN goD plS plP plM plA plBN plBD plLN plLD plR veW veF veP vsF vsN vsD juM juP juTN juTD juO scN scD noF noN noD neF neN neD arP arB arM arU arF arR arL arT arA arS leN leD grN grD arH arLU arGU shN shD stF stN stD rest).length) ((MC s0 s1 handN handD gT gF alE actions alM fiF fiN fiD epN epD goH goN goD plS plP plM plA plBN plBD plLN plLD plR veW veF veP vsF vsN vsD juM juP juTN juTD juO scN scD noF noN noD neF neN neD arP arB arM arU arF arR arL arT arA arS leN leD grN grD arH arLU arGU shN shD stF stN stD rest) ++ [.inr (12, [])]) := by
  refine Cg.of (Nat.le_of_ble_eq_true rfl) ?_
  change Rg _ _ _ _ 0 [(0, .ref 2), (1, .int (iI a)), (2, .int (iI t)), (3, .int (iI f)), (4, .int (iI how))] [] _ _ _
  refine Rg.step 1 F_PJ_change_0 rfl (fun _ => rfl) ?_
  refine Rg.step 2 F_PJ_change_1 rfl (fun _ => rfl) ?_
  refine Rg.getf 5 F_PJ_change_2 rfl rF_1_21 gC_2 rfl ?_
  refine Rg.getf 8 F_PJ_change_5 rfl rF_1_105 gC_6 rfl ?_
  refine Rg.call 11 F_PJ_change_8 rfl (one_V rM_1_109 (by decide) (by simp) rfl rfl gC_7 rfl) (Nat.le_of_ble_eq_true rfl) (Cg.any c_list_size) ?_
  refine Rg.call 14 F_PJ_change_11 rfl (one_S (by decide +kernel) rM_1_71 (by decide) (by simp) rfl rfl) (Nat.le_of_ble_eq_true rfl) (Cg.any (c_idx_ok (by omega) (by omega) (by omega))) ?_
  refine Rg.step 15 F_PJ_change_14 rfl (fun _ => rfl) ?_
  refine Rg.bip 17 F_PJ_change_15 rfl rfl ?_
  refine Rg.call 20 F_PJ_change_17 rfl (one_S (by decide +kernel) rM_1_71 (by decide) (by simp) rfl rfl) (Nat.le_of_ble_eq_true rfl) (Cg.any (c_idx_ok (by omega) (by omega) (by omega))) ?_
  refine Rg.step 21 F_PJ_change_20 rfl (fun _ => rfl) ?_
  refine Rg.call 24 F_PJ_change_21 rfl (one_S (by decide +kernel) rM_1_140 (by decide) (by simp) rfl rfl) (Nat.le_of_ble_eq_true rfl) (Cg.any (c_toc_ok (by omega) (by omega))) ?_
  refine Rg.step 26 F_PJ_change_24 rfl (fun _ => rfl) ?_
  refine Rg.step 27 F_PJ_change_26 rfl (fun _ => rfl) ?_
  refine Rg.step 28 F_PJ_change_27 rfl (fun _ => rfl) ?_
  exact Rg.callT F_PJ_change_28 (one_S (by decide +kernel) rM_1_92 (by decide) (by simp) rfl rfl) (Nat.le_of_ble_eq_true rfl) (c_chk_no (by omega) (by omega) (by omega) (by omega)) gX rfl
theorem c_PJ_compare2 {d : Nat} (wA : 0 ≤ actions ∧ actions ≤ 12) (b_a : -2147483648 ≤ a ∧ a < 2147483648) (b_t : -2147483648 ≤ t ∧ t < 2147483648) (b_f : -2147483648 ≤ f ∧ f < 2147483648) (b_how : -2147483648 ≤ how ∧ how < 2147483648) (ha : 0 ≤ a ∧ a < actions) (hf : 0 ≤ f ∧ f ≤ 7) (h : ¬ (0 ≤ t ∧ t ≤ 2) ∨ ¬ (0 ≤ how ∧ how ≤ 4)) : Cg true (d + 1) m_PJ_compare [.ref 2, .int (iI a), .int (iI t), .int (iI f), .int (iI how)] (MC s0 s1 handN handD gT gF alE actions alM fiF fiN fiD epN epD goH goN goD plS plP plM plA plBN plBD plLN plLD plR veW veF veP vsF vsN vsD juM juP juTN juTD juO scN scD noF noN noD neF neN neD arP arB arM arU arF arR arL arT arA arS leN leD grN grD arH arLU arGU shN shD stF stN stD rest) (.inr (MC s0 s1 handN handD gT gF alE actions alM fiF fiN fiD epN epD goH goN goD plS plP plM plA plBN plBD plLN plLD plR veW veF veP vsF vsN vsD juM juP juTN juTD juO scN scD noF noN noD neF neN neD arP arB arM arU arF arR arL arT arA arS leN leD grN grD arH arLU arGU shN shD stF stN stD rest).length) ((MC s0 s1 handN handD gT gF alE actions alM fiF fiN fiD epN epD goH goN goD plS plP plM plA plBN plBD plLN plLD plR veW veF veP vsF vsN vsD juM juP juTN juTD juO scN scD noF noN noD neF neN neD arP arB arM arU arF arR arL arT arA arS leN leD grN grD arH arLU arGU shN shD stF stN stD rest) ++ [.inr (12, [])]) := by
  by_cases ht : 0 ≤ t ∧ t ≤ 2
  · exact r_PJ_compare_h wA b_a b_t b_f b_how ha hf ht (h.resolve_left (fun z => z ht))
  · exact r_PJ_compare_t wA b_a b_t b_f b_how ha hf ht
theorem c_PJ_change2 {d : Nat} (wA : 0 ≤ actions ∧ actions ≤ 12) (b_a : -2147483648 ≤ a ∧ a < 2147483648) (b_t : -2147483648 ≤ t ∧ t < 2147483648) (b_f : -2147483648 ≤ f ∧ f < 2147483648) (b_how : -2147483648 ≤ how ∧ how < 2147483648) (ha : 0 ≤ a ∧ a < actions) (hf : 0 ≤ f ∧ f ≤ 7) (h : ¬ (t = 0 ∨ t = 2) ∨ ¬ (0 ≤ how ∧ how ≤ 3)) : Cg true (d + 1) m_PJ_change [.ref 2, .int (iI a), .int (iI t), .int (iI f), .int (iI how)] (MC s0 s1 handN handD gT gF alE actions alM fiF fiN fiD epN epD goH goN goD plS plP plM plA plBN plBD plLN plLD plR veW veF veP vsF vsN vsD juM juP juTN juTD juO scN scD noF noN noD neF neN neD arP arB arM arU arF arR arL arT arA arS leN leD grN grD arH arLU arGU shN shD stF stN stD rest) (.inr (MC s0 s1 handN handD gT gF alE actions alM fiF fiN fiD epN epD goH goN goD plS plP plM plA plBN plBD plLN plLD plR veW veF veP vsF vsN vsD juM juP juTN juTD juO scN scD noF noN noD neF neN neD arP arB arM arU arF arR arL arT arA arS leN leD grN grD arH arLU arGU shN shD stF stN stD rest).length) ((MC s0 s1 handN handD gT gF alE actions alM fiF fiN fiD epN epD goH goN goD plS plP plM plA plBN plBD plLN plLD plR veW veF veP vsF vsN vsD juM juP juTN juTD juO scN scD noF noN noD neF neN neD arP arB arM arU arF arR arL arT arA arS leN leD grN grD arH arLU arGU shN shD stF stN stD rest) ++ [.inr (12, [])]) := by
  by_cases ht : t = 0 ∨ t = 2
  · exact r_PJ_change_h wA b_a b_t b_f b_how ha hf ht (h.resolve_left (fun z => z ht))
  · exact r_PJ_change_t wA b_a b_t b_f b_how ha hf ht
theorem r_PJ_need3 {d : Nat} (hO : ActsOK needs needTime needOf needHow needN needD changes changeTime changeOf changeHow changeN changeD lastOf lastN lastD rest alE actions ab) (wA : 0 ≤ actions ∧ actions ≤ 12) (ha : 0 ≤ a ∧ a < actions) (hC : (ActC (MC s0 s1 handN handD gT gF alE actions alM fiF fiN fiD epN epD goH goN goD plS plP plM plA plBN plBD plLN plLD plR veW veF veP vsF vsN vsD juM juP juTN juTD juO scN scD noF noN noD neF neN neD arP arB arM arU arF arR arL arT arA arS leN leD grN grD arH arLU arGU shN shD stF stN stD rest) (ab a) nd ch me nT nF cs cT cO cH cN cD mT mF as aT aO aH aN aD cG sA dO dN dD)) (hb : 219 ≤ ab a) (hn : nd = 8) (ht : 0 ≤ t ∧ t ≤ 2) (hf : 0 ≤ f ∧ f ≤ 15) : Cg true (d + 3) m_PJ_need [.ref 2, .int (iI a), .int (iI t), .int (iI f), .int (bP v)] (MC s0 s1 handN handD gT gF alE actions alM fiF fiN fiD epN epD goH goN goD plS plP plM plA plBN plBD plLN plLD plR veW veF veP vsF vsN vsD juM juP juTN juTD juO scN scD noF noN noD neF neN neD arP arB arM arU arF arR arL arT arA arS leN leD grN grD arH arLU arGU shN shD stF stN stD rest) (.inr (MC s0 s1 handN handD gT gF alE actions alM fiF fiN fiD epN epD goH goN goD plS plP plM plA plBN plBD plLN plLD plR veW veF veP vsF vsN vsD juM juP juTN juTD juO scN scD noF noN noD neF neN neD arP arB arM arU arF arR arL arT arA arS leN leD grN grD arH arLU arGU shN shD stF stN stD rest).length) ((MC s0 s1 handN handD gT gF alE actions alM fiF fiN fiD epN epD goH goN goD plS plP plM plA plBN plBD plLN plLD plR veW veF veP vsF vsN vsD juM juP juTN juTD juO scN scD noF noN noD neF neN neD arP arB arM arU arF arR arL arT arA arS leN leD grN grD arH arLU arGU shN shD stF stN stD rest) ++ [.inr (14, [])]) := by
  refine Cg.of (Nat.le_of_ble_eq_true rfl) ?_
  change Rg _ _ _ _ 0 [(0, .ref 2), (1, .int (iI a)), (2, .int (iI t)), (3, .int (iI f)), (4, .int (bP v))] [] _ _ _
  refine Rg.step 1 F_PJ_need_0 rfl (fun _ => rfl) ?_
  refine Rg.step 2 F_PJ_need_1 rfl (fun _ => rfl) ?_
  refine Rg.getf 5 F_PJ_need_2 rfl rF_1_21 gC_2 rfl ?_
  refine Rg.getf 8 F_PJ_need_5 rfl rF_1_105 gC_6 rfl ?_
  refine Rg.call 11 F_PJ_need_8 rfl (one_V rM_1_109 (by decide) (by simp) rfl rfl gC_7 rfl) (Nat.le_of_ble_eq_true rfl) (Cg.any c_list_size) ?_
  refine Rg.call 14 F_PJ_need_11 rfl (one_S (by decide +kernel) rM_1_71 (by decide) (by simp) rfl rfl) (Nat.le_of_ble_eq_true rfl) (Cg.any (c_idx_ok (by omega) (by omega) (by omega))) ?_
  refine Rg.step 15 F_PJ_need_14 rfl (fun _ => rfl) ?_
  refine Rg.bip 17 F_PJ_need_15 rfl rfl ?_
  refine Rg.call 20 F_PJ_need_17 rfl (one_S (by decide +kernel) rM_1_71 (by decide) (by simp) rfl rfl) (Nat.le_of_ble_eq_true rfl) (Cg.any (c_idx_ok (by omega) (by omega) (by omega))) ?_
  refine Rg.step 21 F_PJ_need_20 rfl (fun _ => rfl) ?_
  refine Rg.step 22 F_PJ_need_21 rfl (fun _ => rfl) ?_
  refine Rg.step 23 F_PJ_need_22 rfl (fun _ => rfl) ?_
  refine Rg.call 26 F_PJ_need_23 rfl (one_S (by decide +kernel) rM_1_92 (by decide) (by simp) rfl rfl) (Nat.le_of_ble_eq_true rfl) (Cg.any (c_chk_ok (by omega) (by omega) (by omega) (by omega))) ?_
  refine Rg.step 27 F_PJ_need_26 rfl (fun _ => rfl) ?_
  refine Rg.getf 30 F_PJ_need_27 rfl rF_1_21 gC_2 rfl ?_
  refine Rg.getf 33 F_PJ_need_30 rfl rF_1_105 gC_6 rfl ?_
  refine Rg.step 34 F_PJ_need_33 rfl (fun _ => rfl) ?_
  refine Rg.call 37 F_PJ_need_34 rfl (one_V rM_1_125 (by decide) (by simp) rfl rfl gC_7 rfl) (Nat.le_of_ble_eq_true rfl) (Cg.any (c_list_get hO wA ha.1 ha.2)) ?_
  refine Rg.cast 40 F_PJ_need_37 rfl rC_1_118 (gA_0 hC) ?_
  refine Rg.step 42 F_PJ_need_40 rfl (fun _ => rfl) ?_
  refine Rg.step 44 F_PJ_need_42 rfl (fun _ => rfl) ?_
  refine Rg.getf 47 F_PJ_need_44 rfl rF_1_129 (gA_0 hC) rfl ?_
  refine Rg.bip 49 F_PJ_need_47 rfl rfl ?_
  exact Rg.callT F_PJ_need_49 (one_S (by decide +kernel) rM_1_115 (by decide) (by simp) rfl rfl) (Nat.le_of_ble_eq_true rfl) (c_room_no (by omega) (by omega) (by omega)) gX rfl
theorem r_PJ_compare3 {d : Nat} (hO : ActsOK needs needTime needOf needHow needN needD changes changeTime changeOf changeHow changeN changeD lastOf lastN lastD rest alE actions ab) (wA : 0 ≤ actions ∧ actions ≤ 12) (ha : 0 ≤ a ∧ a < actions) (hC : (ActC (MC s0 s1 handN handD gT gF alE actions alM fiF fiN fiD epN epD goH goN goD plS plP plM plA plBN plBD plLN plLD plR veW veF veP vsF vsN vsD juM juP juTN juTD juO scN scD noF noN noD neF neN neD arP arB arM arU arF arR arL arT arA arS leN leD grN grD arH arLU arGU shN shD stF stN stD rest) (ab a) nd ch me nT nF cs cT cO cH cN cD mT mF as aT aO aH aN aD cG sA dO dN dD)) (hb : 219 ≤ ab a) (hn : nd = 8) (ht : 0 ≤ t ∧ t ≤ 2) (hf : 0 ≤ f ∧ f ≤ 7) (hh : 0 ≤ how ∧ how ≤ 4) : Cg true (d + 3) m_PJ_compare [.ref 2, .int (iI a), .int (iI t), .int (iI f), .int (iI how)] (MC s0 s1 handN handD gT gF alE actions alM fiF fiN fiD epN epD goH goN goD plS plP plM plA plBN plBD plLN plLD plR veW veF veP vsF vsN vsD juM juP juTN juTD juO scN scD noF noN noD neF neN neD arP arB arM arU arF arR arL arT arA arS leN leD grN grD arH arLU arGU shN shD stF stN stD rest) (.inr (MC s0 s1 handN handD gT gF alE actions alM fiF fiN fiD epN epD goH goN goD plS plP plM plA plBN plBD plLN plLD plR veW veF veP vsF vsN vsD juM juP juTN juTD juO scN scD noF noN noD neF neN neD arP arB arM arU arF arR arL arT arA arS leN leD grN grD arH arLU arGU shN shD stF stN stD rest).length) ((MC s0 s1 handN handD gT gF alE actions alM fiF fiN fiD epN epD goH goN goD plS plP plM plA plBN plBD plLN plLD plR veW veF veP vsF vsN vsD juM juP juTN juTD juO scN scD noF noN noD neF neN neD arP arB arM arU arF arR arL arT arA arS leN leD grN grD arH arLU arGU shN shD stF stN stD rest) ++ [.inr (14, [])]) := by
  refine Cg.of (Nat.le_of_ble_eq_true rfl) ?_
  change Rg _ _ _ _ 0 [(0, .ref 2), (1, .int (iI a)), (2, .int (iI t)), (3, .int (iI f)), (4, .int (iI how))] [] _ _ _
  refine Rg.step 1 F_PJ_compare_0 rfl (fun _ => rfl) ?_
  refine Rg.step 2 F_PJ_compare_1 rfl (fun _ => rfl) ?_
  refine Rg.getf 5 F_PJ_compare_2 rfl rF_1_21 gC_2 rfl ?_
  refine Rg.getf 8 F_PJ_compare_5 rfl rF_1_105 gC_6 rfl ?_
  refine Rg.call 11 F_PJ_compare_8 rfl (one_V rM_1_109 (by decide) (by simp) rfl rfl gC_7 rfl) (Nat.le_of_ble_eq_true rfl) (Cg.any c_list_size) ?_
  refine Rg.call 14 F_PJ_compare_11 rfl (one_S (by decide +kernel) rM_1_71 (by decide) (by simp) rfl rfl) (Nat.le_of_ble_eq_true rfl) (Cg.any (c_idx_ok (by omega) (by omega) (by omega))) ?_
  refine Rg.step 15 F_PJ_compare_14 rfl (fun _ => rfl) ?_
  refine Rg.bip 17 F_PJ_compare_15 rfl rfl ?_
  refine Rg.call 20 F_PJ_compare_17 rfl (one_S (by decide +kernel) rM_1_71 (by decide) (by simp) rfl rfl) (Nat.le_of_ble_eq_true rfl) (Cg.any (c_idx_ok (by omega) (by omega) (by omega))) ?_
  refine Rg.step 21 F_PJ_compare_20 rfl (fun _ => rfl) ?_
  refine Rg.step 22 F_PJ_compare_21 rfl (fun _ => rfl) ?_
  refine Rg.step 23 F_PJ_compare_22 rfl (fun _ => rfl) ?_
  refine Rg.call 26 F_PJ_compare_23 rfl (one_S (by decide +kernel) rM_1_92 (by decide) (by simp) rfl rfl) (Nat.le_of_ble_eq_true rfl) (Cg.any (c_chk_ok (by omega) (by omega) (by omega) (by omega))) ?_
  refine Rg.step 28 F_PJ_compare_26 rfl (fun _ => rfl) ?_
  refine Rg.step 29 F_PJ_compare_28 rfl (fun _ => rfl) ?_
  refine Rg.step 30 F_PJ_compare_29 rfl (fun _ => rfl) ?_
  refine Rg.call 33 F_PJ_compare_30 rfl (one_S (by decide +kernel) rM_1_92 (by decide) (by simp) rfl rfl) (Nat.le_of_ble_eq_true rfl) (Cg.any (c_chk_ok (by omega) (by omega) (by omega) (by omega))) ?_
  refine Rg.step 34 F_PJ_compare_33 rfl (fun _ => rfl) ?_
  refine Rg.getf 37 F_PJ_compare_34 rfl rF_1_21 gC_2 rfl ?_
  refine Rg.getf 40 F_PJ_compare_37 rfl rF_1_105 gC_6 rfl ?_
  refine Rg.step 41 F_PJ_compare_40 rfl (fun _ => rfl) ?_
  refine Rg.call 44 F_PJ_compare_41 rfl (one_V rM_1_125 (by decide) (by simp) rfl rfl gC_7 rfl) (Nat.le_of_ble_eq_true rfl) (Cg.any (c_list_get hO wA ha.1 ha.2)) ?_
  refine Rg.cast 47 F_PJ_compare_44 rfl rC_1_118 (gA_0 hC) ?_
  refine Rg.step 49 F_PJ_compare_47 rfl (fun _ => rfl) ?_
  refine Rg.step 51 F_PJ_compare_49 rfl (fun _ => rfl) ?_
  refine Rg.getf 54 F_PJ_compare_51 rfl rF_1_129 (gA_0 hC) rfl ?_
  refine Rg.bip 56 F_PJ_compare_54 rfl rfl ?_
  exact Rg.callT F_PJ_compare_56 (one_S (by decide +kernel) rM_1_115 (by decide) (by simp) rfl rfl) (Nat.le_of_ble_eq_true rfl) (c_room_no (by omega) (by omega) (by omega)) gX rfl
theorem r_PJ_make3 {d : Nat} (hO : ActsOK needs needTime needOf needHow needN needD changes changeTime changeOf changeHow changeN changeD lastOf lastN lastD rest alE actions ab) (wA : 0 ≤ actions ∧ actions ≤ 12) (ha : 0 ≤ a ∧ a < actions) (hC : (ActC (MC s0 s1 handN handD gT gF alE actions alM fiF fiN fiD epN epD goH goN goD plS plP plM plA plBN plBD plLN plLD plR veW veF veP vsF vsN vsD juM juP juTN juTD juO scN scD noF noN noD neF neN neD arP arB arM arU arF arR arL arT arA arS leN leD grN grD arH arLU arGU shN shD stF stN stD rest) (ab a) nd ch me nT nF cs cT cO cH cN cD mT mF as aT aO aH aN aD cG sA dO dN dD)) (hb : 219 ≤ ab a) (hn : 0 ≤ ch ∧ ch ≤ 6) (ht : t = 0 ∨ t = 2) (hf : 0 ≤ f ∧ f ≤ 15) (hg : ch = 6 ∨ cG t f) : Cg true (d + 3) m_PJ_make [.ref 2, .int (iI a), .int (iI t), .int (iI f), .int (bP v)] (MC s0 s1 handN handD gT gF alE actions alM fiF fiN fiD epN epD goH goN goD plS plP plM plA plBN plBD plLN plLD plR veW veF veP vsF vsN vsD juM juP juTN juTD juO scN scD noF noN noD neF neN neD arP arB arM arU arF arR arL arT arA arS leN leD grN grD arH arLU arGU shN shD stF stN stD rest) (.inr (MC s0 s1 handN handD gT gF alE actions alM fiF fiN fiD epN epD goH goN goD plS plP plM plA plBN plBD plLN plLD plR veW veF veP vsF vsN vsD juM juP juTN juTD juO scN scD noF noN noD neF neN neD arP arB arM arU arF arR arL arT arA arS leN leD grN grD arH arLU arGU shN shD stF stN stD rest).length) ((MC s0 s1 handN handD gT gF alE actions alM fiF fiN fiD epN epD goH goN goD plS plP plM plA plBN plBD plLN plLD plR veW veF veP vsF vsN vsD juM juP juTN juTD juO scN scD noF noN noD neF neN neD arP arB arM arU arF arR arL arT arA arS leN leD grN grD arH arLU arGU shN shD stF stN stD rest) ++ [.inr (14, [])]) := by
  refine Cg.of (Nat.le_of_ble_eq_true rfl) ?_
  change Rg _ _ _ _ 0 [(0, .ref 2), (1, .int (iI a)), (2, .int (iI t)), (3, .int (iI f)), (4, .int (bP v))] [] _ _ _
  refine Rg.step 1 F_PJ_make_0 rfl (fun _ => rfl) ?_
  refine Rg.step 2 F_PJ_make_1 rfl (fun _ => rfl) ?_
  refine Rg.getf 5 F_PJ_make_2 rfl rF_1_21 gC_2 rfl ?_
  refine Rg.getf 8 F_PJ_make_5 rfl rF_1_105 gC_6 rfl ?_
  refine Rg.call 11 F_PJ_make_8 rfl (one_V rM_1_109 (by decide) (by simp) rfl rfl gC_7 rfl) (Nat.le_of_ble_eq_true rfl) (Cg.any c_list_size) ?_
  refine Rg.call 14 F_PJ_make_11 rfl (one_S (by decide +kernel) rM_1_71 (by decide) (by simp) rfl rfl) (Nat.le_of_ble_eq_true rfl) (Cg.any (c_idx_ok (by omega) (by omega) (by omega))) ?_
  refine Rg.step 15 F_PJ_make_14 rfl (fun _ => rfl) ?_
  refine Rg.bip 17 F_PJ_make_15 rfl rfl ?_
  refine Rg.call 20 F_PJ_make_17 rfl (one_S (by decide +kernel) rM_1_71 (by decide) (by simp) rfl rfl) (Nat.le_of_ble_eq_true rfl) (Cg.any (c_idx_ok (by omega) (by omega) (by omega))) ?_
  refine Rg.step 21 F_PJ_make_20 rfl (fun _ => rfl) ?_
  refine Rg.call 24 F_PJ_make_21 rfl (one_S (by decide +kernel) rM_1_140 (by decide) (by simp) rfl rfl) (Nat.le_of_ble_eq_true rfl) (Cg.any (c_toc_ok (by omega) (by omega))) ?_
  refine Rg.step 25 F_PJ_make_24 rfl (fun _ => rfl) ?_
  refine Rg.getf 28 F_PJ_make_25 rfl rF_1_21 gC_2 rfl ?_
  refine Rg.getf 31 F_PJ_make_28 rfl rF_1_105 gC_6 rfl ?_
  refine Rg.step 32 F_PJ_make_31 rfl (fun _ => rfl) ?_
  refine Rg.call 35 F_PJ_make_32 rfl (one_V rM_1_125 (by decide) (by simp) rfl rfl gC_7 rfl) (Nat.le_of_ble_eq_true rfl) (Cg.any (c_list_get hO wA ha.1 ha.2)) ?_
  refine Rg.cast 38 F_PJ_make_35 rfl rC_1_118 (gA_0 hC) ?_
  refine Rg.step 40 F_PJ_make_38 rfl (fun _ => rfl) ?_
  refine Rg.step 42 F_PJ_make_40 rfl (fun _ => rfl) ?_
  refine Rg.step 43 F_PJ_make_42 rfl (fun _ => rfl) ?_
  refine Rg.step 44 F_PJ_make_43 rfl (fun _ => rfl) ?_
  refine Rg.call 47 F_PJ_make_44 rfl (one_S (by decide +kernel) rM_1_85 (by decide) (by simp) rfl rfl) (Nat.le_of_ble_eq_true rfl) (Cg.any (c_factBit (by omega))) ?_
  exact Rg.callT F_PJ_make_47 (one_S (by decide +kernel) rM_1_143 (by decide) (by simp) rfl rfl) (Nat.le_of_ble_eq_true rfl) (c_cnc_no hC hn (by omega) (by omega) hg) gX rfl
theorem r_PJ_change3 {d : Nat} (hO : ActsOK needs needTime needOf needHow needN needD changes changeTime changeOf changeHow changeN changeD lastOf lastN lastD rest alE actions ab) (wA : 0 ≤ actions ∧ actions ≤ 12) (ha : 0 ≤ a ∧ a < actions) (hC : (ActC (MC s0 s1 handN handD gT gF alE actions alM fiF fiN fiD epN epD goH goN goD plS plP plM plA plBN plBD plLN plLD plR veW veF veP vsF vsN vsD juM juP juTN juTD juO scN scD noF noN noD neF neN neD arP arB arM arU arF arR arL arT arA arS leN leD grN grD arH arLU arGU shN shD stF stN stD rest) (ab a) nd ch me nT nF cs cT cO cH cN cD mT mF as aT aO aH aN aD cG sA dO dN dD)) (hb : 219 ≤ ab a) (hn : 0 ≤ ch ∧ ch ≤ 6) (ht : t = 0 ∨ t = 2) (hf : 0 ≤ f ∧ f ≤ 7) (hh : 0 ≤ how ∧ how ≤ 3) (hg : ch = 6 ∨ cG t (16 + f)) : Cg true (d + 3) m_PJ_change [.ref 2, .int (iI a), .int (iI t), .int (iI f), .int (iI how)] (MC s0 s1 handN handD gT gF alE actions alM fiF fiN fiD epN epD goH goN goD plS plP plM plA plBN plBD plLN plLD plR veW veF veP vsF vsN vsD juM juP juTN juTD juO scN scD noF noN noD neF neN neD arP arB arM arU arF arR arL arT arA arS leN leD grN grD arH arLU arGU shN shD stF stN stD rest) (.inr (MC s0 s1 handN handD gT gF alE actions alM fiF fiN fiD epN epD goH goN goD plS plP plM plA plBN plBD plLN plLD plR veW veF veP vsF vsN vsD juM juP juTN juTD juO scN scD noF noN noD neF neN neD arP arB arM arU arF arR arL arT arA arS leN leD grN grD arH arLU arGU shN shD stF stN stD rest).length) ((MC s0 s1 handN handD gT gF alE actions alM fiF fiN fiD epN epD goH goN goD plS plP plM plA plBN plBD plLN plLD plR veW veF veP vsF vsN vsD juM juP juTN juTD juO scN scD noF noN noD neF neN neD arP arB arM arU arF arR arL arT arA arS leN leD grN grD arH arLU arGU shN shD stF stN stD rest) ++ [.inr (14, [])]) := by
  refine Cg.of (Nat.le_of_ble_eq_true rfl) ?_
  change Rg _ _ _ _ 0 [(0, .ref 2), (1, .int (iI a)), (2, .int (iI t)), (3, .int (iI f)), (4, .int (iI how))] [] _ _ _
  refine Rg.step 1 F_PJ_change_0 rfl (fun _ => rfl) ?_
  refine Rg.step 2 F_PJ_change_1 rfl (fun _ => rfl) ?_
  refine Rg.getf 5 F_PJ_change_2 rfl rF_1_21 gC_2 rfl ?_
  refine Rg.getf 8 F_PJ_change_5 rfl rF_1_105 gC_6 rfl ?_
  refine Rg.call 11 F_PJ_change_8 rfl (one_V rM_1_109 (by decide) (by simp) rfl rfl gC_7 rfl) (Nat.le_of_ble_eq_true rfl) (Cg.any c_list_size) ?_
  refine Rg.call 14 F_PJ_change_11 rfl (one_S (by decide +kernel) rM_1_71 (by decide) (by simp) rfl rfl) (Nat.le_of_ble_eq_true rfl) (Cg.any (c_idx_ok (by omega) (by omega) (by omega))) ?_
  refine Rg.step 15 F_PJ_change_14 rfl (fun _ => rfl) ?_
  refine Rg.bip 17 F_PJ_change_15 rfl rfl ?_
  refine Rg.call 20 F_PJ_change_17 rfl (one_S (by decide +kernel) rM_1_71 (by decide) (by simp) rfl rfl) (Nat.le_of_ble_eq_true rfl) (Cg.any (c_idx_ok (by omega) (by omega) (by omega))) ?_
  refine Rg.step 21 F_PJ_change_20 rfl (fun _ => rfl) ?_
  refine Rg.call 24 F_PJ_change_21 rfl (one_S (by decide +kernel) rM_1_140 (by decide) (by simp) rfl rfl) (Nat.le_of_ble_eq_true rfl) (Cg.any (c_toc_ok (by omega) (by omega))) ?_
  refine Rg.step 26 F_PJ_change_24 rfl (fun _ => rfl) ?_
  refine Rg.step 27 F_PJ_change_26 rfl (fun _ => rfl) ?_
  refine Rg.step 28 F_PJ_change_27 rfl (fun _ => rfl) ?_
  refine Rg.call 31 F_PJ_change_28 rfl (one_S (by decide +kernel) rM_1_92 (by decide) (by simp) rfl rfl) (Nat.le_of_ble_eq_true rfl) (Cg.any (c_chk_ok (by omega) (by omega) (by omega) (by omega))) ?_
  refine Rg.step 32 F_PJ_change_31 rfl (fun _ => rfl) ?_
  refine Rg.getf 35 F_PJ_change_32 rfl rF_1_21 gC_2 rfl ?_
  refine Rg.getf 38 F_PJ_change_35 rfl rF_1_105 gC_6 rfl ?_
  refine Rg.step 39 F_PJ_change_38 rfl (fun _ => rfl) ?_
  refine Rg.call 42 F_PJ_change_39 rfl (one_V rM_1_125 (by decide) (by simp) rfl rfl gC_7 rfl) (Nat.le_of_ble_eq_true rfl) (Cg.any (c_list_get hO wA ha.1 ha.2)) ?_
  refine Rg.cast 45 F_PJ_change_42 rfl rC_1_118 (gA_0 hC) ?_
  refine Rg.step 47 F_PJ_change_45 rfl (fun _ => rfl) ?_
  refine Rg.step 49 F_PJ_change_47 rfl (fun _ => rfl) ?_
  refine Rg.step 50 F_PJ_change_49 rfl (fun _ => rfl) ?_
  refine Rg.step 51 F_PJ_change_50 rfl (fun _ => rfl) ?_
  refine Rg.call 54 F_PJ_change_51 rfl (one_S (by decide +kernel) rM_1_150 (by decide) (by simp) rfl rfl) (Nat.le_of_ble_eq_true rfl) (Cg.any (c_numberBit (by omega))) ?_
  exact Rg.callT F_PJ_change_54 (one_S (by decide +kernel) rM_1_143 (by decide) (by simp) rfl rfl) (Nat.le_of_ble_eq_true rfl) (c_cnc_no hC hn (by omega) (by omega) hg) gX rfl
theorem r_PJ_last_a {d : Nat} (wA : 0 ≤ actions ∧ actions ≤ 12) (b_a : -2147483648 ≤ a ∧ a < 2147483648) (b_t : -2147483648 ≤ t ∧ t < 2147483648) (b_f : -2147483648 ≤ f ∧ f < 2147483648) (ha : ¬ (0 ≤ a ∧ a < actions)) : Cg true (d + 1) m_PJ_last [.ref 2, .int (iI a), .int (iI t), .int (iI f)] (MC s0 s1 handN handD gT gF alE actions alM fiF fiN fiD epN epD goH goN goD plS plP plM plA plBN plBD plLN plLD plR veW veF veP vsF vsN vsD juM juP juTN juTD juO scN scD noF noN noD neF neN neD arP arB arM arU arF arR arL arT arA arS leN leD grN grD arH arLU arGU shN shD stF stN stD rest) (.inr (MC s0 s1 handN handD gT gF alE actions alM fiF fiN fiD epN epD goH goN goD plS plP plM plA plBN plBD plLN plLD plR veW veF veP vsF vsN vsD juM juP juTN juTD juO scN scD noF noN noD neF neN neD arP arB arM arU arF arR arL arT arA arS leN leD grN grD arH arLU arGU shN shD stF stN stD rest).length) ((MC s0 s1 handN handD gT gF alE actions alM fiF fiN fiD epN epD goH goN goD plS plP plM plA plBN plBD plLN plLD plR veW veF veP vsF vsN vsD juM juP juTN juTD juO scN scD noF noN noD neF neN neD arP arB arM arU arF arR arL arT arA arS leN leD grN grD arH arLU arGU shN shD stF stN stD rest) ++ [.inr (13, [])]) := by
  refine Cg.of (Nat.le_of_ble_eq_true rfl) ?_
  change Rg _ _ _ _ 0 [(0, .ref 2), (1, .int (iI a)), (2, .int (iI t)), (3, .int (iI f))] [] _ _ _
  refine Rg.step 1 F_PJ_last_0 rfl (fun _ => rfl) ?_
  refine Rg.step 2 F_PJ_last_1 rfl (fun _ => rfl) ?_
  refine Rg.getf 5 F_PJ_last_2 rfl rF_1_21 gC_2 rfl ?_
  refine Rg.getf 8 F_PJ_last_5 rfl rF_1_105 gC_6 rfl ?_
  refine Rg.call 11 F_PJ_last_8 rfl (one_V rM_1_109 (by decide) (by simp) rfl rfl gC_7 rfl) (Nat.le_of_ble_eq_true rfl) (Cg.any c_list_size) ?_
  exact Rg.callT F_PJ_last_11 (one_S (by decide +kernel) rM_1_71 (by decide) (by simp) rfl rfl) (Nat.le_of_ble_eq_true rfl) (c_idx_no (by omega) (by omega) (by omega)) gX rfl
theorem r_PJ_last_b {d : Nat} (wA : 0 ≤ actions ∧ actions ≤ 12) (b_a : -2147483648 ≤ a ∧ a < 2147483648) (b_t : -2147483648 ≤ t ∧ t < 2147483648) (b_f : -2147483648 ≤ f ∧ f < 2147483648) (ha : 0 ≤ a ∧ a < actions) (hf : ¬ (-2 ≤ f ∧ f ≤ 7)) : Cg true (d + 1) m_PJ_last [.ref 2, .int (iI a), .int (iI t), .int (iI f)] (MC s0 s1 handN handD gT gF alE actions alM fiF fiN fiD epN epD goH goN goD plS plP plM plA plBN plBD plLN plLD plR veW veF veP vsF vsN vsD juM juP juTN juTD juO scN scD noF noN noD neF neN neD arP arB arM arU arF arR arL arT arA arS leN leD grN grD arH arLU arGU shN shD stF stN stD rest) (.inr (MC s0 s1 handN handD gT gF alE actions alM fiF fiN fiD epN epD goH goN goD plS plP plM plA plBN plBD plLN plLD plR veW veF veP vsF vsN vsD juM juP juTN juTD juO scN scD noF noN noD neF neN neD arP arB arM arU arF arR arL arT arA arS leN leD grN grD arH arLU arGU shN shD stF stN stD rest).length) ((MC s0 s1 handN handD gT gF alE actions alM fiF fiN fiD epN epD goH goN goD plS plP plM plA plBN plBD plLN plLD plR veW veF veP vsF vsN vsD juM juP juTN juTD juO scN scD noF noN noD neF neN neD arP arB arM arU arF arR arL arT arA arS leN leD grN grD arH arLU arGU shN shD stF stN stD rest) ++ [.inr (13, [])]) := by
  refine Cg.of (Nat.le_of_ble_eq_true rfl) ?_
  change Rg _ _ _ _ 0 [(0, .ref 2), (1, .int (iI a)), (2, .int (iI t)), (3, .int (iI f))] [] _ _ _
  refine Rg.step 1 F_PJ_last_0 rfl (fun _ => rfl) ?_
  refine Rg.step 2 F_PJ_last_1 rfl (fun _ => rfl) ?_
  refine Rg.getf 5 F_PJ_last_2 rfl rF_1_21 gC_2 rfl ?_
  refine Rg.getf 8 F_PJ_last_5 rfl rF_1_105 gC_6 rfl ?_
  refine Rg.call 11 F_PJ_last_8 rfl (one_V rM_1_109 (by decide) (by simp) rfl rfl gC_7 rfl) (Nat.le_of_ble_eq_true rfl) (Cg.any c_list_size) ?_
  refine Rg.call 14 F_PJ_last_11 rfl (one_S (by decide +kernel) rM_1_71 (by decide) (by simp) rfl rfl) (Nat.le_of_ble_eq_true rfl) (Cg.any (c_idx_ok (by omega) (by omega) (by omega))) ?_
  refine Rg.step 15 F_PJ_last_14 rfl (fun _ => rfl) ?_
  refine Rg.step 16 F_PJ_last_15 rfl (fun _ => rfl) ?_
  refine Rg.iceqI 31 19 F_PJ_last_16 rfl rfl (by omega) (by omega) (fun h16 => by omega) (fun _ => ?_)
  refine Rg.step 20 F_PJ_last_19 rfl (fun _ => rfl) ?_
  refine Rg.bip 22 F_PJ_last_20 rfl rfl ?_
  refine Rg.iceqI 31 25 F_PJ_last_22 rfl rfl (by omega) (by omega) (fun h22 => by omega) (fun _ => ?_)
  refine Rg.step 26 F_PJ_last_25 rfl (fun _ => rfl) ?_
  refine Rg.bip 28 F_PJ_last_26 rfl rfl ?_
  exact Rg.callT F_PJ_last_28 (one_S (by decide +kernel) rM_1_71 (by decide) (by simp) rfl rfl) (Nat.le_of_ble_eq_true rfl) (c_idx_no (by omega) (by omega) (by omega)) gX rfl
theorem c_PJ_last1 {d : Nat} (wA : 0 ≤ actions ∧ actions ≤ 12) (b_a : -2147483648 ≤ a ∧ a < 2147483648) (b_t : -2147483648 ≤ t ∧ t < 2147483648) (b_f : -2147483648 ≤ f ∧ f < 2147483648) (h : ¬ (0 ≤ a ∧ a < actions) ∨ ¬ (-2 ≤ f ∧ f ≤ 7)) : Cg true (d + 1) m_PJ_last [.ref 2, .int (iI a), .int (iI t), .int (iI f)] (MC s0 s1 handN handD gT gF alE actions alM fiF fiN fiD epN epD goH goN goD plS plP plM plA plBN plBD plLN plLD plR veW veF veP vsF vsN vsD juM juP juTN juTD juO scN scD noF noN noD neF neN neD arP arB arM arU arF arR arL arT arA arS leN leD grN grD arH arLU arGU shN shD stF stN stD rest) (.inr (MC s0 s1 handN handD gT gF alE actions alM fiF fiN fiD epN epD goH goN goD plS plP plM plA plBN plBD plLN plLD plR veW veF veP vsF vsN vsD juM juP juTN juTD juO scN scD noF noN noD neF neN neD arP arB arM arU arF arR arL arT arA arS leN leD grN grD arH arLU arGU shN shD stF stN stD rest).length) ((MC s0 s1 handN handD gT gF alE actions alM fiF fiN fiD epN epD goH goN goD plS plP plM plA plBN plBD plLN plLD plR veW veF veP vsF vsN vsD juM juP juTN juTD juO scN scD noF noN noD neF neN neD arP arB arM arU arF arR arL arT arA arS leN leD grN grD arH arLU arGU shN shD stF stN stD rest) ++ [.inr (13, [])]) := by
  by_cases ha : 0 ≤ a ∧ a < actions
  · exact r_PJ_last_b wA b_a b_t b_f ha (h.resolve_left (fun z => z ha))
  · exact r_PJ_last_a wA b_a b_t b_f ha
theorem r_PJ_last2_n {d : Nat} (wA : 0 ≤ actions ∧ actions ≤ 12) (b_a : -2147483648 ≤ a ∧ a < 2147483648) (b_t : -2147483648 ≤ t ∧ t < 2147483648) (b_f : -2147483648 ≤ f ∧ f < 2147483648) (ha : 0 ≤ a ∧ a < actions) (hf : 0 ≤ f ∧ f ≤ 7) (ht : ¬ (0 ≤ t ∧ t ≤ 1)) : Cg true (d + 1) m_PJ_last [.ref 2, .int (iI a), .int (iI t), .int (iI f)] (MC s0 s1 handN handD gT gF alE actions alM fiF fiN fiD epN epD goH goN goD plS plP plM plA plBN plBD plLN plLD plR veW veF veP vsF vsN vsD juM juP juTN juTD juO scN scD noF noN noD neF neN neD arP arB arM arU arF arR arL arT arA arS leN leD grN grD arH arLU arGU shN shD stF stN stD rest) (.inr (MC s0 s1 handN handD gT gF alE actions alM fiF fiN fiD epN epD goH goN goD plS plP plM plA plBN plBD plLN plLD plR veW veF veP vsF vsN vsD juM juP juTN juTD juO scN scD noF noN noD neF neN neD arP arB arM arU arF arR arL arT arA arS leN leD grN grD arH arLU arGU shN shD stF stN stD rest).length) ((MC s0 s1 handN handD gT gF alE actions alM fiF fiN fiD epN epD goH goN goD plS plP plM plA plBN plBD plLN plLD plR veW veF veP vsF vsN vsD juM juP juTN juTD juO scN scD noF noN noD neF neN neD arP arB arM arU arF arR arL arT arA arS leN leD grN grD arH arLU arGU shN shD stF stN stD rest) ++ [.inr (12, [])]) := by
  refine Cg.of (Nat.le_of_ble_eq_true rfl) ?_
  change Rg _ _ _ _ 0 [(0, .ref 2), (1, .int (iI a)), (2, .int (iI t)), (3, .int (iI f))] [] _ _ _
  refine Rg.step 1 F_PJ_last_0 rfl (fun _ => rfl) ?_
  refine Rg.step 2 F_PJ_last_1 rfl (fun _ => rfl) ?_
  refine Rg.getf 5 F_PJ_last_2 rfl rF_1_21 gC_2 rfl ?_
  refine Rg.getf 8 F_PJ_last_5 rfl rF_1_105 gC_6 rfl ?_
  refine Rg.call 11 F_PJ_last_8 rfl (one_V rM_1_109 (by decide) (by simp) rfl rfl gC_7 rfl) (Nat.le_of_ble_eq_true rfl) (Cg.any c_list_size) ?_
  refine Rg.call 14 F_PJ_last_11 rfl (one_S (by decide +kernel) rM_1_71 (by decide) (by simp) rfl rfl) (Nat.le_of_ble_eq_true rfl) (Cg.any (c_idx_ok (by omega) (by omega) (by omega))) ?_
  refine Rg.step 15 F_PJ_last_14 rfl (fun _ => rfl) ?_
  refine Rg.step 16 F_PJ_last_15 rfl (fun _ => rfl) ?_
  refine Rg.iceqI 31 19 F_PJ_last_16 rfl rfl (by omega) (by omega) (fun h16 => by omega) (fun _ => ?_)
  refine Rg.step 20 F_PJ_last_19 rfl (fun _ => rfl) ?_
  refine Rg.bip 22 F_PJ_last_20 rfl rfl ?_
  refine Rg.iceqI 31 25 F_PJ_last_22 rfl rfl (by omega) (by omega) (fun h22 => by omega) (fun _ => ?_)
  refine Rg.step 26 F_PJ_last_25 rfl (fun _ => rfl) ?_
  refine Rg.bip 28 F_PJ_last_26 rfl rfl ?_
  refine Rg.call 31 F_PJ_last_28 rfl (one_S (by decide +kernel) rM_1_71 (by decide) (by simp) rfl rfl) (Nat.le_of_ble_eq_true rfl) (Cg.any (c_idx_ok (by omega) (by omega) (by omega))) ?_
  refine Rg.step 32 F_PJ_last_31 rfl (fun _ => rfl) ?_
  refine Rg.step 33 F_PJ_last_32 rfl (fun _ => rfl) ?_
  refine Rg.step 34 F_PJ_last_33 rfl (fun _ => rfl) ?_
  exact Rg.callT F_PJ_last_34 (one_S (by decide +kernel) rM_1_92 (by decide) (by simp) rfl rfl) (Nat.le_of_ble_eq_true rfl) (c_chk_no (by omega) (by omega) (by omega) (by omega)) gX rfl
theorem r_PJ_last2_m {d : Nat} (wA : 0 ≤ actions ∧ actions ≤ 12) (b_a : -2147483648 ≤ a ∧ a < 2147483648) (b_t : -2147483648 ≤ t ∧ t < 2147483648) (b_f : -2147483648 ≤ f ∧ f < 2147483648) (ha : 0 ≤ a ∧ a < actions) (hf : f = -1) (ht : ¬ (0 ≤ t ∧ t ≤ 1)) : Cg true (d + 1) m_PJ_last [.ref 2, .int (iI a), .int (iI t), .int (iI f)] (MC s0 s1 handN handD gT gF alE actions alM fiF fiN fiD epN epD goH goN goD plS plP plM plA plBN plBD plLN plLD plR veW veF veP vsF vsN vsD juM juP juTN juTD juO scN scD noF noN noD neF neN neD arP arB arM arU arF arR arL arT arA arS leN leD grN grD arH arLU arGU shN shD stF stN stD rest) (.inr (MC s0 s1 handN handD gT gF alE actions alM fiF fiN fiD epN epD goH goN goD plS plP plM plA plBN plBD plLN plLD plR veW veF veP vsF vsN vsD juM juP juTN juTD juO scN scD noF noN noD neF neN neD arP arB arM arU arF arR arL arT arA arS leN leD grN grD arH arLU arGU shN shD stF stN stD rest).length) ((MC s0 s1 handN handD gT gF alE actions alM fiF fiN fiD epN epD goH goN goD plS plP plM plA plBN plBD plLN plLD plR veW veF veP vsF vsN vsD juM juP juTN juTD juO scN scD noF noN noD neF neN neD arP arB arM arU arF arR arL arT arA arS leN leD grN grD arH arLU arGU shN shD stF stN stD rest) ++ [.inr (12, [])]) := by
  refine Cg.of (Nat.le_of_ble_eq_true rfl) ?_
  change Rg _ _ _ _ 0 [(0, .ref 2), (1, .int (iI a)), (2, .int (iI t)), (3, .int (iI f))] [] _ _ _
  refine Rg.step 1 F_PJ_last_0 rfl (fun _ => rfl) ?_
  refine Rg.step 2 F_PJ_last_1 rfl (fun _ => rfl) ?_
  refine Rg.getf 5 F_PJ_last_2 rfl rF_1_21 gC_2 rfl ?_
  refine Rg.getf 8 F_PJ_last_5 rfl rF_1_105 gC_6 rfl ?_
  refine Rg.call 11 F_PJ_last_8 rfl (one_V rM_1_109 (by decide) (by simp) rfl rfl gC_7 rfl) (Nat.le_of_ble_eq_true rfl) (Cg.any c_list_size) ?_
  refine Rg.call 14 F_PJ_last_11 rfl (one_S (by decide +kernel) rM_1_71 (by decide) (by simp) rfl rfl) (Nat.le_of_ble_eq_true rfl) (Cg.any (c_idx_ok (by omega) (by omega) (by omega))) ?_
  refine Rg.step 15 F_PJ_last_14 rfl (fun _ => rfl) ?_
  refine Rg.step 16 F_PJ_last_15 rfl (fun _ => rfl) ?_
  refine Rg.iceqI 31 19 F_PJ_last_16 rfl rfl (by omega) (by omega) (fun _ => ?_) (fun h16 => by omega)
  refine Rg.step 32 F_PJ_last_31 rfl (fun _ => rfl) ?_
  refine Rg.step 33 F_PJ_last_32 rfl (fun _ => rfl) ?_
  refine Rg.step 34 F_PJ_last_33 rfl (fun _ => rfl) ?_
  exact Rg.callT F_PJ_last_34 (one_S (by decide +kernel) rM_1_92 (by decide) (by simp) rfl rfl) (Nat.le_of_ble_eq_true rfl) (c_chk_no (by omega) (by omega) (by omega) (by omega)) gX rfl
theorem r_PJ_last2_o {d : Nat} (wA : 0 ≤ actions ∧ actions ≤ 12) (b_a : -2147483648 ≤ a ∧ a < 2147483648) (b_t : -2147483648 ≤ t ∧ t < 2147483648) (b_f : -2147483648 ≤ f ∧ f < 2147483648) (ha : 0 ≤ a ∧ a < actions) (hf : f = -2) (ht : ¬ (0 ≤ t ∧ t ≤ 1)) : Cg true (d + 1) m_PJ_last [.ref 2, .int (iI a), .int (iI t), .int (iI f)] (MC s0 s1 handN handD gT gF alE actions alM fiF fiN fiD epN epD goH goN goD plS plP plM plA plBN plBD plLN plLD plR veW veF veP vsF vsN vsD juM juP juTN juTD juO scN scD noF noN noD neF neN neD arP arB arM arU arF arR arL arT arA arS leN leD grN grD arH arLU arGU shN shD stF stN stD rest) (.inr (MC s0 s1 handN handD gT gF alE actions alM fiF fiN fiD epN epD goH goN goD plS plP plM plA plBN plBD plLN plLD plR veW veF veP vsF vsN vsD juM juP juTN juTD juO scN scD noF noN noD neF neN neD arP arB arM arU arF arR arL arT arA arS leN leD grN grD arH arLU arGU shN shD stF stN stD rest).length) ((MC s0 s1 handN handD gT gF alE actions alM fiF fiN fiD epN epD goH goN goD plS plP plM plA plBN plBD plLN plLD plR veW veF veP vsF vsN vsD juM juP juTN juTD juO scN scD noF noN noD neF neN neD arP arB arM arU arF arR arL arT arA arS leN leD grN grD arH arLU arGU shN shD stF stN stD rest) ++ [.inr (12, [])]) := by
  refine Cg.of (Nat.le_of_ble_eq_true rfl) ?_
  change Rg _ _ _ _ 0 [(0, .ref 2), (1, .int (iI a)), (2, .int (iI t)), (3, .int (iI f))] [] _ _ _
  refine Rg.step 1 F_PJ_last_0 rfl (fun _ => rfl) ?_
  refine Rg.step 2 F_PJ_last_1 rfl (fun _ => rfl) ?_
  refine Rg.getf 5 F_PJ_last_2 rfl rF_1_21 gC_2 rfl ?_
  refine Rg.getf 8 F_PJ_last_5 rfl rF_1_105 gC_6 rfl ?_
  refine Rg.call 11 F_PJ_last_8 rfl (one_V rM_1_109 (by decide) (by simp) rfl rfl gC_7 rfl) (Nat.le_of_ble_eq_true rfl) (Cg.any c_list_size) ?_
  refine Rg.call 14 F_PJ_last_11 rfl (one_S (by decide +kernel) rM_1_71 (by decide) (by simp) rfl rfl) (Nat.le_of_ble_eq_true rfl) (Cg.any (c_idx_ok (by omega) (by omega) (by omega))) ?_
  refine Rg.step 15 F_PJ_last_14 rfl (fun _ => rfl) ?_
  refine Rg.step 16 F_PJ_last_15 rfl (fun _ => rfl) ?_
  refine Rg.iceqI 31 19 F_PJ_last_16 rfl rfl (by omega) (by omega) (fun h16 => by omega) (fun _ => ?_)
  refine Rg.step 20 F_PJ_last_19 rfl (fun _ => rfl) ?_
  refine Rg.bip 22 F_PJ_last_20 rfl rfl ?_
  refine Rg.iceqI 31 25 F_PJ_last_22 rfl rfl (by omega) (by omega) (fun _ => ?_) (fun h22 => by omega)
  refine Rg.step 32 F_PJ_last_31 rfl (fun _ => rfl) ?_
  refine Rg.step 33 F_PJ_last_32 rfl (fun _ => rfl) ?_
  refine Rg.step 34 F_PJ_last_33 rfl (fun _ => rfl) ?_
  exact Rg.callT F_PJ_last_34 (one_S (by decide +kernel) rM_1_92 (by decide) (by simp) rfl rfl) (Nat.le_of_ble_eq_true rfl) (c_chk_no (by omega) (by omega) (by omega) (by omega)) gX rfl
theorem c_PJ_last2 {d : Nat} (wA : 0 ≤ actions ∧ actions ≤ 12) (b_a : -2147483648 ≤ a ∧ a < 2147483648) (b_t : -2147483648 ≤ t ∧ t < 2147483648) (b_f : -2147483648 ≤ f ∧ f < 2147483648) (ha : 0 ≤ a ∧ a < actions) (hf : -2 ≤ f ∧ f ≤ 7) (ht : ¬ (0 ≤ t ∧ t ≤ 1)) : Cg true (d + 1) m_PJ_last [.ref 2, .int (iI a), .int (iI t), .int (iI f)] (MC s0 s1 handN handD gT gF alE actions alM fiF fiN fiD epN epD goH goN goD plS plP plM plA plBN plBD plLN plLD plR veW veF veP vsF vsN vsD juM juP juTN juTD juO scN scD noF noN noD neF neN neD arP arB arM arU arF arR arL arT arA arS leN leD grN grD arH arLU arGU shN shD stF stN stD rest) (.inr (MC s0 s1 handN handD gT gF alE actions alM fiF fiN fiD epN epD goH goN goD plS plP plM plA plBN plBD plLN plLD plR veW veF veP vsF vsN vsD juM juP juTN juTD juO scN scD noF noN noD neF neN neD arP arB arM arU arF arR arL arT arA arS leN leD grN grD arH arLU arGU shN shD stF stN stD rest).length) ((MC s0 s1 handN handD gT gF alE actions alM fiF fiN fiD epN epD goH goN goD plS plP plM plA plBN plBD plLN plLD plR veW veF veP vsF vsN vsD juM juP juTN juTD juO scN scD noF noN noD neF neN neD arP arB arM arU arF arR arL arT arA arS leN leD grN grD arH arLU arGU shN shD stF stN stD rest) ++ [.inr (12, [])]) := by
  by_cases h1 : f = -1
  · exact r_PJ_last2_m wA b_a b_t b_f ha h1 ht
  · by_cases h2 : f = -2
    · exact r_PJ_last2_o wA b_a b_t b_f ha h2 ht
    · exact r_PJ_last2_n wA b_a b_t b_f ha (by omega) ht
end R86
