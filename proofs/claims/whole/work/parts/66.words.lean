/-! Actions of the class, in the words of the reference. -/
def ActM (needs needTime needOf needHow needN needD changes changeTime changeOf changeHow changeN changeD lastOf lastN lastD : Int → Int) (mem : AM) (b : Nat) (a : Int) : Prop := ∃ (nd : Int) (ch : Int) (me : Int → Prop) (nT : Int → Int → Prop) (nF : Int → Int → Prop) (cs : Int) (cT : Int → Int) (cO : Int → Int) (cH : Int → Int) (cN : Int → Int) (cD : Int → Int) (mT : Int → Int → Prop) (mF : Int → Int → Prop) (as : Int) (aT : Int → Int) (aO : Int → Int) (aH : Int → Int) (aN : Int → Int) (aD : Int → Int) (cG : Int → Int → Prop) (sA : Int → Int → Prop) (dO : Int → Int) (dN : Int → Int) (dD : Int → Int), ActC mem b nd ch me nT nF cs cT cO cH cN cD mT mF as aT aO aH aN aD cG sA dO dN dD ∧ RELA needs needTime needOf needHow needN needD changes changeTime changeOf changeHow changeN changeD lastOf lastN lastD a nd ch me nT nF cs cT cO cH cN cD mT mF as aT aO aH aN aD cG sA dO dN dD
section R66
variable {mem : AM} {b b2 : Nat} {a a2 : Int}
variable {code amountN amountD momentN momentD epsilonN epsilonD actions steps rows tried triedRows unit point judged fault faultPoint outN outD : Int}
variable {firstN firstD wishes wants wantN wantD needs needTime needOf needHow needN needD changes changeTime changeOf changeHow changeN changeD lastOf lastN lastD stepAction startN startD lengthN lengthD row triedAction triedRow times numN numD oldN oldD toldN toldD pointN pointD leastN leastD greatestN greatestD events : Int → Int}
variable {firstFacts facts oldFacts toldFacts gone now : Int → Prop}
variable {sx fx u v : Nat} {F : Int → Prop} {N D : Int → Int}
theorem WN_8 (h : WN N D) : ∀ n, 0 ≤ n → n < 8 → (-1000000000 ≤ N n ∧ N n ≤ 1000000000) ∧ 0 < D n ∧ D n ≤ 1000000000 := fun n _ _ => by have := h n; omega
theorem c_M_isMet {d : Nat} (h2 : 2 ≤ b) (hw : WT epsilonN epsilonD wishes wants wantN wantD actions needs needTime needOf needHow needN needD changes changeTime changeOf changeHow changeN changeD lastOf lastN lastD firstN firstD) (ha : (ActM needs needTime needOf needHow needN needD changes changeTime changeOf changeHow changeN changeD lastOf lastN lastD mem b a)) (wa : 0 ≤ a ∧ a < actions) (hs : mem[sx]? = some (.inr (6, [.int (mk F), .ref fx]))) (hf : FI mem fx u v 8 N D) (wN : WN N D) {t : Int} (ht : 0 ≤ t ∧ t ≤ 2) : Cg true (d + 3) m_Action_isMet [.ref b, .ref sx, .int (iI t)] mem (.inl (some (.int (bP (fit needs needTime needOf needHow needN needD F N D a t))))) mem := by
  obtain ⟨nd, ch, me, nT, nF, cs, cT, cO, cH, cN, cD, mT, mF, as, aT, aO, aH, aN, aD, cG, sA, dO, dN, dD, hc, hr⟩ := ha
  obtain ⟨-, -, -, -, -, wn, wnT, wnO, wnH, wnN, wnD, -, -, -, -, -, -, -, -, -, -⟩ := id hw
  have hr0 := hr
  obtain ⟨-, -, -, ⟨hcs, NL, hN, -⟩, -⟩ := hr0
  have w1 := wn a
  rw [← bP_c (met_fit hr wnO wnH (F := F) (N := N) (D := D) (t := t))]
  refine c_Action_isMet h2 hc hs hf (WN_8 wN) (by omega) (fun i z1 z2 => ?_) ht
  obtain ⟨⟨y1, y2⟩, e1, e2, e3, e4, e5⟩ := hN i z1 z2
  have x1 := wnT (NL i)
  have x2 := wnO (NL i)
  have x3 := wnH (NL i)
  have x4 := wnN (NL i)
  have x5 := wnD a (NL i) wa.1 wa.2 y1.1 y1.2
  rw [e1, e2, e3, e4, e5]
  omega
theorem c_M_interf {d : Nat} (hw : WT epsilonN epsilonD wishes wants wantN wantD actions needs needTime needOf needHow needN needD changes changeTime changeOf changeHow changeN changeD lastOf lastN lastD firstN firstD) (ha : (ActM needs needTime needOf needHow needN needD changes changeTime changeOf changeHow changeN changeD lastOf lastN lastD mem b a)) (wa : 0 ≤ a ∧ a < actions) (hb : (ActM needs needTime needOf needHow needN needD changes changeTime changeOf changeHow changeN changeD lastOf lastN lastD mem b2 a2)) (wb : 0 ≤ a2 ∧ a2 < actions) {t t2 : Int} (ht : 0 ≤ t ∧ t ≤ 2) (ht2 : 0 ≤ t2 ∧ t2 ≤ 2) : Cg true d m_Action_interferes [.ref b, .int (iI t), .ref b2, .int (iI t2)] mem (.inl (some (.int (bP (interf needs needTime needHow needOf lastOf changes changeTime changeHow changeOf a t a2 t2))))) mem := by
  obtain ⟨nd, ch, me, nT, nF, cs, cT, cO, cH, cN, cD, mT, mF, as, aT, aO, aH, aN, aD, cG, sA, dO, dN, dD, hc, hr⟩ := ha
  obtain ⟨nd2, ch2, me2, nT2, nF2, cs2, cT2, cO2, cH2, cN2, cD2, mT2, mF2, as2, aT2, aO2, aH2, aN2, aD2, cG2, sA2, dO2, dN2, dD2, hc2, hr2⟩ := hb
  obtain ⟨-, -, -, -, -, -, -, wnO, -, -, -, wc, -, wcO, wcH, -, -, -, -, -, -⟩ := id hw
  rw [← bP_c (int_interf hr hr2 (fun k => (wc k).1) wa.1 wb.1 (fun k => ⟨(wcO k).1, (wcO k).2.1⟩) (fun k => ⟨(wnO k).1, (wnO k).2.1⟩) wcH)]
  exact c_Action_interferes hc hc2 ht ht2
theorem c_M_change {d : Nat} (h2 : 2 ≤ b) (hw : WT epsilonN epsilonD wishes wants wantN wantD actions needs needTime needOf needHow needN needD changes changeTime changeOf changeHow changeN changeD lastOf lastN lastD firstN firstD) (ha : (ActM needs needTime needOf needHow needN needD changes changeTime changeOf changeHow changeN changeD lastOf lastN lastD mem b a)) (wa : 0 ≤ a ∧ a < actions) (hs : mem[sx]? = some (.inr (6, [.int (mk F), .ref fx]))) (hf : FI mem fx u v 8 N D) (d1 : sx < b) (d2 : u < b) (d3 : v < b) (g1 : 2 ≤ sx) (wN : WN N D) {t : Int} (ht : 0 ≤ t ∧ t ≤ 2) : ∃ F2 N2 D2, (∀ S, chAll changeTime changeOf changeHow changeN changeD t (changes a).toNat (6 * a) (F, N, D) = some S → S = (F2, N2, D2)) ∧ Cg false (d + 2) m_Action_changeState [.ref b, .ref sx, .int (iI t)] mem (.inl (some (.int (bP (∃ S, chAll changeTime changeOf changeHow changeN changeD t (changes a).toNat (6 * a) (F, N, D) = some S))))) (stS mem sx fx u v F2 N2 D2) := by
  obtain ⟨nd, ch, me, nT, nF, cs, cT, cO, cH, cN, cD, mT, mF, as, aT, aO, aH, aN, aD, cG, sA, dO, dN, dD, hc, hr⟩ := ha
  obtain ⟨-, -, -, -, -, -, -, -, -, -, -, wc, wcT, wcO, wcH, wcN, wcD, -, -, -, -⟩ := id hw
  have hr0 := hr
  obtain ⟨-, -, -, -, -, -, ⟨hcs, AL, hN, -, -⟩, -⟩ := hr0
  have w1 := wc a
  have hE := ch_chAll hr wcH (t := t) (F := F) (N := N) (D := D)
  obtain ⟨N2, D2, i1, hcg⟩ := c_Action_changeState (d := d) h2 hc hs hf d1 d2 d3 g1 (by omega) (fun i z1 z2 => by
    obtain ⟨⟨y1, y2⟩, e1, e2, e3, e4, e5⟩ := hN i z1 z2
    have x1 := wcT (AL i)
    have x2 := wcO (AL i)
    have x3 := wcH (AL i)
    have x4 := wcN (AL i)
    have x5 := wcD a (AL i) wa.1 wa.2 y1.1 y1.2
    rw [e1, e2, e3, e4, e5]
    omega) ht (WN_8 wN)
  refine ⟨(fun i => (F i ∧ ¬ mF t i) ∨ mT t i), N2, D2, fun S hS => ?_, ?_⟩
  · rw [hE] at hS
    cases hq : chN aT aO aH aN aD t as.toNat 0 (N, D) with
    | none => rw [hq] at hS; cases hS
    | some S0 =>
      have := (i1 ⟨S0, hq⟩).1
      rw [this] at hS
      cases hS
      rfl
  · rw [hE]
    have hiff : (∃ S, (chN aT aO aH aN aD t as.toNat 0 (N, D)).map (fun S => ((fun i => (F i ∧ ¬ mF t i) ∨ mT t i), S.1, S.2)) = some S) ↔ ∃ S, chN aT aO aH aN aD t as.toNat 0 (N, D) = some S := by
      cases chN aT aO aH aN aD t as.toNat 0 (N, D) with
      | none => exact ⟨fun ⟨S, h⟩ => (by cases h), fun ⟨S, h⟩ => (by cases h)⟩
      | some S0 => exact ⟨fun _ => ⟨_, rfl⟩, fun _ => ⟨_, rfl⟩⟩
    rw [bP_c hiff]
    exact hcg
theorem c_M_wb_no {d : Nat} (h2 : 2 ≤ b) (hw : WT epsilonN epsilonD wishes wants wantN wantD actions needs needTime needOf needHow needN needD changes changeTime changeOf changeHow changeN changeD lastOf lastN lastD firstN firstD) (ha : (ActM needs needTime needOf needHow needN needD changes changeTime changeOf changeHow changeN changeD lastOf lastN lastD mem b a)) (wa : 0 ≤ a ∧ a < actions) {a2 : Nat} {w i : Int} (hw2 : w = 0 ∨ w = 1) (h3 : lastOf (2 * a + w) = -2) : Cg true (d + 1) m_Action_writeBound [.ref b, .int (iI w), .ref sx, .ref a2, .int (iI i)] mem (.inl (some (.int (bP False)))) mem := by
  obtain ⟨nd, ch, me, nT, nF, cs, cT, cO, cH, cN, cD, mT, mF, as, aT, aO, aH, aN, aD, cG, sA, dO, dN, dD, hc, hr⟩ := ha
  obtain ⟨e1, -⟩ := wb_dur hr hw2 (N := fun _ => 0) (D := fun _ => 0)
  refine Cg.of (Nat.le_of_ble_eq_true rfl) ?_
  change Rg _ _ _ _ 0 [(0, .ref b), (1, .int (iI w)), (2, .ref sx), (3, .ref a2), (4, .int (iI i))] [] _ _ _
  refine Rg.step 1 F_Action_writeBound_0 rfl (fun _ => rfl) ?_
  refine Rg.getf 4 F_Action_writeBound_1 rfl rF_17_42 (gA_0 hc) rfl ?_
  refine Rg.step 5 F_Action_writeBound_4 rfl (fun _ => rfl) ?_
  refine Rg.ild 6 F_Action_writeBound_5 rfl (gA_21 hc) (by omega) (by omega) ?_
  refine Rg.step 8 F_Action_writeBound_6 rfl (fun _ => rfl) ?_
  refine Rg.step 10 F_Action_writeBound_8 rfl (fun _ => rfl) ?_
  refine Rg.bip 12 F_Action_writeBound_10 rfl rfl ?_
  refine Rg.icneI 17 15 F_Action_writeBound_12 rfl rfl (by omega) (by omega) (fun h12 => by omega) (fun _ => ?_)
  refine Rg.step 16 F_Action_writeBound_15 rfl (fun _ => rfl) ?_
  exact Rg.ret0 F_Action_writeBound_16 rfl (fun z => z) rfl
theorem c_M_wb_yes {d : Nat} (h2 : 2 ≤ b) (hw : WT epsilonN epsilonD wishes wants wantN wantD actions needs needTime needOf needHow needN needD changes changeTime changeOf changeHow changeN changeD lastOf lastN lastD firstN firstD) (ha : (ActM needs needTime needOf needHow needN needD changes changeTime changeOf changeHow changeN changeD lastOf lastN lastD mem b a)) (wa : 0 ≤ a ∧ a < actions) (hs : mem[sx]? = some (.inr (6, [.int (mk F), .ref fx]))) (hf : FI mem fx u v 8 N D) {a2 u2 v2 n2 : Nat} {N2 D2 : Int → Int} (hg : FI mem a2 u2 v2 n2 N2 D2) (hn : n2 ≤ 100) (d2 : u2 < b) (wN : WN N D) {w i : Int} (hw2 : w = 0 ∨ w = 1) (hi : 0 ≤ i ∧ i < n2) (h3 : ¬ lastOf (2 * a + w) = -2) : Cg false (d + 1) m_Action_writeBound [.ref b, .int (iI w), .ref sx, .ref a2, .int (iI i)] mem (.inl (some (.int (bP True)))) (fsI mem u2 v2 n2 (up1 N2 i (nN (durP N lastOf lastN (2 * a + w)) (durP D lastOf lastD (2 * a + w)))) (up1 D2 i (nD (durP N lastOf lastN (2 * a + w)) (durP D lastOf lastD (2 * a + w))))) := by
  obtain ⟨nd, ch, me, nT, nF, cs, cT, cO, cH, cN, cD, mT, mF, as, aT, aO, aH, aN, aD, cG, sA, dO, dN, dD, hc, hr⟩ := ha
  obtain ⟨-, -, -, -, wA, -, -, -, -, -, -, -, -, -, -, -, -, wL, wLN, wLD, -⟩ := id hw
  obtain ⟨e1, e2⟩ := wb_dur hr hw2 (N := N) (D := D)
  have x1 := wL (2 * a + w)
  have x2 := wLN (2 * a + w)
  have x3 := wLD (2 * a + w)
  obtain ⟨⟨e3, e4⟩, e5, e6⟩ := e2 h3
  have x4 := x3 (by omega) (by omega) h3
  rw [← e5, ← e6]
  exact c_Action_wb_yes h2 hc hs hf hg hn d2 (WN_8 wN) (by omega) hi (by rw [e1, e3, e4]; omega) (by rw [e1]; exact h3)
end R66
