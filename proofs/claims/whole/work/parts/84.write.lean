/-! Actions of the class: what they are told. -/
noncomputable def MA (pre : AM) (b : Nat) (nd : Int) (ch : Int) (me : Int → Prop) (nT : Int → Int → Prop) (nF : Int → Int → Prop) (cs : Int) (cT : Int → Int) (cO : Int → Int) (cH : Int → Int) (cN : Int → Int) (cD : Int → Int) (mT : Int → Int → Prop) (mF : Int → Int → Prop) (as : Int) (aT : Int → Int) (aO : Int → Int) (aH : Int → Int) (aN : Int → Int) (aD : Int → Int) (cG : Int → Int → Prop) (sA : Int → Int → Prop) (dO : Int → Int) (dN : Int → Int) (dD : Int → Int) (post : AM) : AM := pre ++ (actL b nd ch me nT nF cs cT cO cH cN cD mT mF as aT aO aH aN aD cG sA dO dN dD ++ post)
theorem FI.app {pre x : AM} {a u v n : Nat} {N D : Int → Int} (h : FI pre a u v n N D) : FI (pre ++ x) a u v n N D := by
  have key : ∀ {i : Nat} {c : AC}, pre[i]? = some c → (pre ++ x)[i]? = some c := fun {i c} hc => by
    rw [List.getElem?_append_left]
    · exact hc
    · exact (List.getElem?_eq_some_iff.mp hc).1
  obtain ⟨h1, h2, h3, h4⟩ := h
  exact ⟨key h1, key h2, key h3, h4⟩
section R84
variable {pre post : AM} {b : Nat} {nd ch cs as : Int} {cT cO cH cN cD aT aO aH aN aD dO dN dD : Int → Int} {nT nF mT mF cG sA : Int → Int → Prop} {me : Int → Prop} {handN handD : Int → Int}
theorem gMA_0 (hb : pre.length = b) : (MA pre b nd ch me nT nF cs cT cO cH cN cD mT mF as aT aO aH aN aD cG sA dO dN dD post)[b]? = some (.inr (1, [.int (iI nd), .int (iI ch), .ref (b + 1), .ref (b + 2), .ref (b + 3), .ref (b + 10), .ref (b + 11), .ref (b + 12), .ref (b + 19), .ref (b + 20), .int (mk me), .ref (b + 21), .ref (b + 22)])) := by
  unfold MA
  rw [List.getElem?_append_right (by omega), show b - pre.length = 0 by omega]
  rfl
theorem gMA_1 (hb : pre.length = b) : (MA pre b nd ch me nT nF cs cT cO cH cN cD mT mF as aT aO aH aN aD cG sA dO dN dD post)[(b + 1)]? = some (.inl (.int, aK 3 nT)) := by
  unfold MA
  rw [List.getElem?_append_right (by omega), show (b + 1) - pre.length = 1 by omega]
  rfl
theorem gMA_2 (hb : pre.length = b) : (MA pre b nd ch me nT nF cs cT cO cH cN cD mT mF as aT aO aH aN aD cG sA dO dN dD post)[(b + 2)]? = some (.inl (.int, aK 3 nF)) := by
  unfold MA
  rw [List.getElem?_append_right (by omega), show (b + 2) - pre.length = 2 by omega]
  rfl
theorem gMA_3 (hb : pre.length = b) : (MA pre b nd ch me nT nF cs cT cO cH cN cD mT mF as aT aO aH aN aD cG sA dO dN dD post)[(b + 3)]? = some (.inr (8, [.int (iI cs), .ref (b + 4), .ref (b + 5), .ref (b + 6), .ref (b + 7)])) := by
  unfold MA
  rw [List.getElem?_append_right (by omega), show (b + 3) - pre.length = 3 by omega]
  rfl
theorem gMA_4 (hb : pre.length = b) : (MA pre b nd ch me nT nF cs cT cO cH cN cD mT mF as aT aO aH aN aD cG sA dO dN dD post)[(b + 4)]? = some (.inl (.int, aI 8 cT)) := by
  unfold MA
  rw [List.getElem?_append_right (by omega), show (b + 4) - pre.length = 4 by omega]
  rfl
theorem gMA_5 (hb : pre.length = b) : (MA pre b nd ch me nT nF cs cT cO cH cN cD mT mF as aT aO aH aN aD cG sA dO dN dD post)[(b + 5)]? = some (.inl (.int, aI 8 cO)) := by
  unfold MA
  rw [List.getElem?_append_right (by omega), show (b + 5) - pre.length = 5 by omega]
  rfl
theorem gMA_6 (hb : pre.length = b) : (MA pre b nd ch me nT nF cs cT cO cH cN cD mT mF as aT aO aH aN aD cG sA dO dN dD post)[(b + 6)]? = some (.inl (.int, aI 8 cH)) := by
  unfold MA
  rw [List.getElem?_append_right (by omega), show (b + 6) - pre.length = 6 by omega]
  rfl
theorem gMA_7 (hb : pre.length = b) : (MA pre b nd ch me nT nF cs cT cO cH cN cD mT mF as aT aO aH aN aD cG sA dO dN dD post)[(b + 7)]? = some (.inr (3, [.ref (b + 8), .ref (b + 9)])) := by
  unfold MA
  rw [List.getElem?_append_right (by omega), show (b + 7) - pre.length = 7 by omega]
  rfl
theorem gMA_8 (hb : pre.length = b) : (MA pre b nd ch me nT nF cs cT cO cH cN cD mT mF as aT aO aH aN aD cG sA dO dN dD post)[(b + 8)]? = some (.inl (.long, aL 8 cN)) := by
  unfold MA
  rw [List.getElem?_append_right (by omega), show (b + 8) - pre.length = 8 by omega]
  rfl
theorem gMA_9 (hb : pre.length = b) : (MA pre b nd ch me nT nF cs cT cO cH cN cD mT mF as aT aO aH aN aD cG sA dO dN dD post)[(b + 9)]? = some (.inl (.long, aL 8 cD)) := by
  unfold MA
  rw [List.getElem?_append_right (by omega), show (b + 9) - pre.length = 9 by omega]
  rfl
theorem gMA_10 (hb : pre.length = b) : (MA pre b nd ch me nT nF cs cT cO cH cN cD mT mF as aT aO aH aN aD cG sA dO dN dD post)[(b + 10)]? = some (.inl (.int, aK 3 mT)) := by
  unfold MA
  rw [List.getElem?_append_right (by omega), show (b + 10) - pre.length = 10 by omega]
  rfl
theorem gMA_11 (hb : pre.length = b) : (MA pre b nd ch me nT nF cs cT cO cH cN cD mT mF as aT aO aH aN aD cG sA dO dN dD post)[(b + 11)]? = some (.inl (.int, aK 3 mF)) := by
  unfold MA
  rw [List.getElem?_append_right (by omega), show (b + 11) - pre.length = 11 by omega]
  rfl
theorem gMA_12 (hb : pre.length = b) : (MA pre b nd ch me nT nF cs cT cO cH cN cD mT mF as aT aO aH aN aD cG sA dO dN dD post)[(b + 12)]? = some (.inr (8, [.int (iI as), .ref (b + 13), .ref (b + 14), .ref (b + 15), .ref (b + 16)])) := by
  unfold MA
  rw [List.getElem?_append_right (by omega), show (b + 12) - pre.length = 12 by omega]
  rfl
theorem gMA_13 (hb : pre.length = b) : (MA pre b nd ch me nT nF cs cT cO cH cN cD mT mF as aT aO aH aN aD cG sA dO dN dD post)[(b + 13)]? = some (.inl (.int, aI 6 aT)) := by
  unfold MA
  rw [List.getElem?_append_right (by omega), show (b + 13) - pre.length = 13 by omega]
  rfl
theorem gMA_14 (hb : pre.length = b) : (MA pre b nd ch me nT nF cs cT cO cH cN cD mT mF as aT aO aH aN aD cG sA dO dN dD post)[(b + 14)]? = some (.inl (.int, aI 6 aO)) := by
  unfold MA
  rw [List.getElem?_append_right (by omega), show (b + 14) - pre.length = 14 by omega]
  rfl
theorem gMA_15 (hb : pre.length = b) : (MA pre b nd ch me nT nF cs cT cO cH cN cD mT mF as aT aO aH aN aD cG sA dO dN dD post)[(b + 15)]? = some (.inl (.int, aI 6 aH)) := by
  unfold MA
  rw [List.getElem?_append_right (by omega), show (b + 15) - pre.length = 15 by omega]
  rfl
theorem gMA_16 (hb : pre.length = b) : (MA pre b nd ch me nT nF cs cT cO cH cN cD mT mF as aT aO aH aN aD cG sA dO dN dD post)[(b + 16)]? = some (.inr (3, [.ref (b + 17), .ref (b + 18)])) := by
  unfold MA
  rw [List.getElem?_append_right (by omega), show (b + 16) - pre.length = 16 by omega]
  rfl
theorem gMA_17 (hb : pre.length = b) : (MA pre b nd ch me nT nF cs cT cO cH cN cD mT mF as aT aO aH aN aD cG sA dO dN dD post)[(b + 17)]? = some (.inl (.long, aL 6 aN)) := by
  unfold MA
  rw [List.getElem?_append_right (by omega), show (b + 17) - pre.length = 17 by omega]
  rfl
theorem gMA_18 (hb : pre.length = b) : (MA pre b nd ch me nT nF cs cT cO cH cN cD mT mF as aT aO aH aN aD cG sA dO dN dD post)[(b + 18)]? = some (.inl (.long, aL 6 aD)) := by
  unfold MA
  rw [List.getElem?_append_right (by omega), show (b + 18) - pre.length = 18 by omega]
  rfl
theorem gMA_19 (hb : pre.length = b) : (MA pre b nd ch me nT nF cs cT cO cH cN cD mT mF as aT aO aH aN aD cG sA dO dN dD post)[(b + 19)]? = some (.inl (.int, aK 3 cG)) := by
  unfold MA
  rw [List.getElem?_append_right (by omega), show (b + 19) - pre.length = 19 by omega]
  rfl
theorem gMA_20 (hb : pre.length = b) : (MA pre b nd ch me nT nF cs cT cO cH cN cD mT mF as aT aO aH aN aD cG sA dO dN dD post)[(b + 20)]? = some (.inl (.int, aK 3 sA)) := by
  unfold MA
  rw [List.getElem?_append_right (by omega), show (b + 20) - pre.length = 20 by omega]
  rfl
theorem gMA_21 (hb : pre.length = b) : (MA pre b nd ch me nT nF cs cT cO cH cN cD mT mF as aT aO aH aN aD cG sA dO dN dD post)[(b + 21)]? = some (.inl (.int, aI 2 dO)) := by
  unfold MA
  rw [List.getElem?_append_right (by omega), show (b + 21) - pre.length = 21 by omega]
  rfl
theorem gMA_22 (hb : pre.length = b) : (MA pre b nd ch me nT nF cs cT cO cH cN cD mT mF as aT aO aH aN aD cG sA dO dN dD post)[(b + 22)]? = some (.inr (3, [.ref (b + 23), .ref (b + 24)])) := by
  unfold MA
  rw [List.getElem?_append_right (by omega), show (b + 22) - pre.length = 22 by omega]
  rfl
theorem gMA_23 (hb : pre.length = b) : (MA pre b nd ch me nT nF cs cT cO cH cN cD mT mF as aT aO aH aN aD cG sA dO dN dD post)[(b + 23)]? = some (.inl (.long, aL 2 dN)) := by
  unfold MA
  rw [List.getElem?_append_right (by omega), show (b + 23) - pre.length = 23 by omega]
  rfl
theorem gMA_24 (hb : pre.length = b) : (MA pre b nd ch me nT nF cs cT cO cH cN cD mT mF as aT aO aH aN aD cG sA dO dN dD post)[(b + 24)]? = some (.inl (.long, aL 2 dD)) := by
  unfold MA
  rw [List.getElem?_append_right (by omega), show (b + 24) - pre.length = 24 by omega]
  rfl
theorem sMA_nd {xx : Int} (hb : pre.length = b) : (MA pre b nd ch me nT nF cs cT cO cH cN cD mT mF as aT aO aH aN aD cG sA dO dN dD post).set b (.inr (1, List.set [.int (iI nd), .int (iI ch), .ref (b + 1), .ref (b + 2), .ref (b + 3), .ref (b + 10), .ref (b + 11), .ref (b + 12), .ref (b + 19), .ref (b + 20), .int (mk me), .ref (b + 21), .ref (b + 22)] 0 (.int (iI xx)))) = (MA pre b xx ch me nT nF cs cT cO cH cN cD mT mF as aT aO aH aN aD cG sA dO dN dD post) := by
  unfold MA
  rw [List.set_append_right _ _ (by omega), show b - pre.length = 0 by omega]
  rfl
theorem sMA_ch {xx : Int} (hb : pre.length = b) : (MA pre b nd ch me nT nF cs cT cO cH cN cD mT mF as aT aO aH aN aD cG sA dO dN dD post).set b (.inr (1, List.set [.int (iI nd), .int (iI ch), .ref (b + 1), .ref (b + 2), .ref (b + 3), .ref (b + 10), .ref (b + 11), .ref (b + 12), .ref (b + 19), .ref (b + 20), .int (mk me), .ref (b + 21), .ref (b + 22)] 1 (.int (iI xx)))) = (MA pre b nd xx me nT nF cs cT cO cH cN cD mT mF as aT aO aH aN aD cG sA dO dN dD post) := by
  unfold MA
  rw [List.set_append_right _ _ (by omega), show b - pre.length = 0 by omega]
  rfl
theorem sMA_me {xx : Int → Prop} (hb : pre.length = b) : (MA pre b nd ch me nT nF cs cT cO cH cN cD mT mF as aT aO aH aN aD cG sA dO dN dD post).set b (.inr (1, List.set [.int (iI nd), .int (iI ch), .ref (b + 1), .ref (b + 2), .ref (b + 3), .ref (b + 10), .ref (b + 11), .ref (b + 12), .ref (b + 19), .ref (b + 20), .int (mk me), .ref (b + 21), .ref (b + 22)] 10 (.int (mk xx)))) = (MA pre b nd ch xx nT nF cs cT cO cH cN cD mT mF as aT aO aH aN aD cG sA dO dN dD post) := by
  unfold MA
  rw [List.set_append_right _ _ (by omega), show b - pre.length = 0 by omega]
  rfl
theorem sMA_nT {xx : Int → Int → Prop} (hb : pre.length = b) : (MA pre b nd ch me nT nF cs cT cO cH cN cD mT mF as aT aO aH aN aD cG sA dO dN dD post).set (b + 1) (.inl (.int, aK 3 xx)) = (MA pre b nd ch me xx nF cs cT cO cH cN cD mT mF as aT aO aH aN aD cG sA dO dN dD post) := by
  unfold MA
  rw [List.set_append_right _ _ (by omega), show (b + 1) - pre.length = 1 by omega]
  rfl
theorem sMA_nF {xx : Int → Int → Prop} (hb : pre.length = b) : (MA pre b nd ch me nT nF cs cT cO cH cN cD mT mF as aT aO aH aN aD cG sA dO dN dD post).set (b + 2) (.inl (.int, aK 3 xx)) = (MA pre b nd ch me nT xx cs cT cO cH cN cD mT mF as aT aO aH aN aD cG sA dO dN dD post) := by
  unfold MA
  rw [List.set_append_right _ _ (by omega), show (b + 2) - pre.length = 2 by omega]
  rfl
theorem sMA_cs {xx : Int} (hb : pre.length = b) : (MA pre b nd ch me nT nF cs cT cO cH cN cD mT mF as aT aO aH aN aD cG sA dO dN dD post).set (b + 3) (.inr (8, List.set [.int (iI cs), .ref (b + 4), .ref (b + 5), .ref (b + 6), .ref (b + 7)] 0 (.int (iI xx)))) = (MA pre b nd ch me nT nF xx cT cO cH cN cD mT mF as aT aO aH aN aD cG sA dO dN dD post) := by
  unfold MA
  rw [List.set_append_right _ _ (by omega), show (b + 3) - pre.length = 3 by omega]
  rfl
theorem sMA_cT {xx : Int → Int} (hb : pre.length = b) : (MA pre b nd ch me nT nF cs cT cO cH cN cD mT mF as aT aO aH aN aD cG sA dO dN dD post).set (b + 4) (.inl (.int, aI 8 xx)) = (MA pre b nd ch me nT nF cs xx cO cH cN cD mT mF as aT aO aH aN aD cG sA dO dN dD post) := by
  unfold MA
  rw [List.set_append_right _ _ (by omega), show (b + 4) - pre.length = 4 by omega]
  rfl
theorem sMA_cO {xx : Int → Int} (hb : pre.length = b) : (MA pre b nd ch me nT nF cs cT cO cH cN cD mT mF as aT aO aH aN aD cG sA dO dN dD post).set (b + 5) (.inl (.int, aI 8 xx)) = (MA pre b nd ch me nT nF cs cT xx cH cN cD mT mF as aT aO aH aN aD cG sA dO dN dD post) := by
  unfold MA
  rw [List.set_append_right _ _ (by omega), show (b + 5) - pre.length = 5 by omega]
  rfl
theorem sMA_cH {xx : Int → Int} (hb : pre.length = b) : (MA pre b nd ch me nT nF cs cT cO cH cN cD mT mF as aT aO aH aN aD cG sA dO dN dD post).set (b + 6) (.inl (.int, aI 8 xx)) = (MA pre b nd ch me nT nF cs cT cO xx cN cD mT mF as aT aO aH aN aD cG sA dO dN dD post) := by
  unfold MA
  rw [List.set_append_right _ _ (by omega), show (b + 6) - pre.length = 6 by omega]
  rfl
theorem sMA_cN {xx : Int → Int} (hb : pre.length = b) : (MA pre b nd ch me nT nF cs cT cO cH cN cD mT mF as aT aO aH aN aD cG sA dO dN dD post).set (b + 8) (.inl (.long, aL 8 xx)) = (MA pre b nd ch me nT nF cs cT cO cH xx cD mT mF as aT aO aH aN aD cG sA dO dN dD post) := by
  unfold MA
  rw [List.set_append_right _ _ (by omega), show (b + 8) - pre.length = 8 by omega]
  rfl
theorem sMA_cD {xx : Int → Int} (hb : pre.length = b) : (MA pre b nd ch me nT nF cs cT cO cH cN cD mT mF as aT aO aH aN aD cG sA dO dN dD post).set (b + 9) (.inl (.long, aL 8 xx)) = (MA pre b nd ch me nT nF cs cT cO cH cN xx mT mF as aT aO aH aN aD cG sA dO dN dD post) := by
  unfold MA
  rw [List.set_append_right _ _ (by omega), show (b + 9) - pre.length = 9 by omega]
  rfl
theorem sMA_mT {xx : Int → Int → Prop} (hb : pre.length = b) : (MA pre b nd ch me nT nF cs cT cO cH cN cD mT mF as aT aO aH aN aD cG sA dO dN dD post).set (b + 10) (.inl (.int, aK 3 xx)) = (MA pre b nd ch me nT nF cs cT cO cH cN cD xx mF as aT aO aH aN aD cG sA dO dN dD post) := by
  unfold MA
  rw [List.set_append_right _ _ (by omega), show (b + 10) - pre.length = 10 by omega]
  rfl
theorem sMA_mF {xx : Int → Int → Prop} (hb : pre.length = b) : (MA pre b nd ch me nT nF cs cT cO cH cN cD mT mF as aT aO aH aN aD cG sA dO dN dD post).set (b + 11) (.inl (.int, aK 3 xx)) = (MA pre b nd ch me nT nF cs cT cO cH cN cD mT xx as aT aO aH aN aD cG sA dO dN dD post) := by
  unfold MA
  rw [List.set_append_right _ _ (by omega), show (b + 11) - pre.length = 11 by omega]
  rfl
theorem sMA_as {xx : Int} (hb : pre.length = b) : (MA pre b nd ch me nT nF cs cT cO cH cN cD mT mF as aT aO aH aN aD cG sA dO dN dD post).set (b + 12) (.inr (8, List.set [.int (iI as), .ref (b + 13), .ref (b + 14), .ref (b + 15), .ref (b + 16)] 0 (.int (iI xx)))) = (MA pre b nd ch me nT nF cs cT cO cH cN cD mT mF xx aT aO aH aN aD cG sA dO dN dD post) := by
  unfold MA
  rw [List.set_append_right _ _ (by omega), show (b + 12) - pre.length = 12 by omega]
  rfl
theorem sMA_aT {xx : Int → Int} (hb : pre.length = b) : (MA pre b nd ch me nT nF cs cT cO cH cN cD mT mF as aT aO aH aN aD cG sA dO dN dD post).set (b + 13) (.inl (.int, aI 6 xx)) = (MA pre b nd ch me nT nF cs cT cO cH cN cD mT mF as xx aO aH aN aD cG sA dO dN dD post) := by
  unfold MA
  rw [List.set_append_right _ _ (by omega), show (b + 13) - pre.length = 13 by omega]
  rfl
theorem sMA_aO {xx : Int → Int} (hb : pre.length = b) : (MA pre b nd ch me nT nF cs cT cO cH cN cD mT mF as aT aO aH aN aD cG sA dO dN dD post).set (b + 14) (.inl (.int, aI 6 xx)) = (MA pre b nd ch me nT nF cs cT cO cH cN cD mT mF as aT xx aH aN aD cG sA dO dN dD post) := by
  unfold MA
  rw [List.set_append_right _ _ (by omega), show (b + 14) - pre.length = 14 by omega]
  rfl
theorem sMA_aH {xx : Int → Int} (hb : pre.length = b) : (MA pre b nd ch me nT nF cs cT cO cH cN cD mT mF as aT aO aH aN aD cG sA dO dN dD post).set (b + 15) (.inl (.int, aI 6 xx)) = (MA pre b nd ch me nT nF cs cT cO cH cN cD mT mF as aT aO xx aN aD cG sA dO dN dD post) := by
  unfold MA
  rw [List.set_append_right _ _ (by omega), show (b + 15) - pre.length = 15 by omega]
  rfl
theorem sMA_aN {xx : Int → Int} (hb : pre.length = b) : (MA pre b nd ch me nT nF cs cT cO cH cN cD mT mF as aT aO aH aN aD cG sA dO dN dD post).set (b + 17) (.inl (.long, aL 6 xx)) = (MA pre b nd ch me nT nF cs cT cO cH cN cD mT mF as aT aO aH xx aD cG sA dO dN dD post) := by
  unfold MA
  rw [List.set_append_right _ _ (by omega), show (b + 17) - pre.length = 17 by omega]
  rfl
theorem sMA_aD {xx : Int → Int} (hb : pre.length = b) : (MA pre b nd ch me nT nF cs cT cO cH cN cD mT mF as aT aO aH aN aD cG sA dO dN dD post).set (b + 18) (.inl (.long, aL 6 xx)) = (MA pre b nd ch me nT nF cs cT cO cH cN cD mT mF as aT aO aH aN xx cG sA dO dN dD post) := by
  unfold MA
  rw [List.set_append_right _ _ (by omega), show (b + 18) - pre.length = 18 by omega]
  rfl
theorem sMA_cG {xx : Int → Int → Prop} (hb : pre.length = b) : (MA pre b nd ch me nT nF cs cT cO cH cN cD mT mF as aT aO aH aN aD cG sA dO dN dD post).set (b + 19) (.inl (.int, aK 3 xx)) = (MA pre b nd ch me nT nF cs cT cO cH cN cD mT mF as aT aO aH aN aD xx sA dO dN dD post) := by
  unfold MA
  rw [List.set_append_right _ _ (by omega), show (b + 19) - pre.length = 19 by omega]
  rfl
theorem sMA_sA {xx : Int → Int → Prop} (hb : pre.length = b) : (MA pre b nd ch me nT nF cs cT cO cH cN cD mT mF as aT aO aH aN aD cG sA dO dN dD post).set (b + 20) (.inl (.int, aK 3 xx)) = (MA pre b nd ch me nT nF cs cT cO cH cN cD mT mF as aT aO aH aN aD cG xx dO dN dD post) := by
  unfold MA
  rw [List.set_append_right _ _ (by omega), show (b + 20) - pre.length = 20 by omega]
  rfl
theorem sMA_dO {xx : Int → Int} (hb : pre.length = b) : (MA pre b nd ch me nT nF cs cT cO cH cN cD mT mF as aT aO aH aN aD cG sA dO dN dD post).set (b + 21) (.inl (.int, aI 2 xx)) = (MA pre b nd ch me nT nF cs cT cO cH cN cD mT mF as aT aO aH aN aD cG sA xx dN dD post) := by
  unfold MA
  rw [List.set_append_right _ _ (by omega), show (b + 21) - pre.length = 21 by omega]
  rfl
theorem sMA_dN {xx : Int → Int} (hb : pre.length = b) : (MA pre b nd ch me nT nF cs cT cO cH cN cD mT mF as aT aO aH aN aD cG sA dO dN dD post).set (b + 23) (.inl (.long, aL 2 xx)) = (MA pre b nd ch me nT nF cs cT cO cH cN cD mT mF as aT aO aH aN aD cG sA dO xx dD post) := by
  unfold MA
  rw [List.set_append_right _ _ (by omega), show (b + 23) - pre.length = 23 by omega]
  rfl
theorem sMA_dD {xx : Int → Int} (hb : pre.length = b) : (MA pre b nd ch me nT nF cs cT cO cH cN cD mT mF as aT aO aH aN aD cG sA dO dN dD post).set (b + 24) (.inl (.long, aL 2 xx)) = (MA pre b nd ch me nT nF cs cT cO cH cN cD mT mF as aT aO aH aN aD cG sA dO dN xx post) := by
  unfold MA
  rw [List.set_append_right _ _ (by omega), show (b + 24) - pre.length = 24 by omega]
  rfl
theorem gFM_c (h2 : 6 ≤ b) (hb : pre.length = b) : FI (MA pre b nd ch me nT nF cs cT cO cH cN cD mT mF as aT aO aH aN aD cG sA dO dN dD post) (b + 7) (b + 8) (b + 9) 8 cN cD := FI.of (gMA_7 hb) (gMA_8 hb) (gMA_9 hb) (by omega) (by omega) (by omega) (by decide)
theorem sFM_c {xx yy : Int → Int} (hb : pre.length = b) : fsI (MA pre b nd ch me nT nF cs cT cO cH cN cD mT mF as aT aO aH aN aD cG sA dO dN dD post) (b + 8) (b + 9) 8 xx yy = (MA pre b nd ch me nT nF cs cT cO cH xx yy mT mF as aT aO aH aN aD cG sA dO dN dD post) := by
  unfold fsI
  rw [sMA_cN hb, sMA_cD hb]
theorem gFM_a (h2 : 6 ≤ b) (hb : pre.length = b) : FI (MA pre b nd ch me nT nF cs cT cO cH cN cD mT mF as aT aO aH aN aD cG sA dO dN dD post) (b + 16) (b + 17) (b + 18) 6 aN aD := FI.of (gMA_16 hb) (gMA_17 hb) (gMA_18 hb) (by omega) (by omega) (by omega) (by decide)
theorem sFM_a {xx yy : Int → Int} (hb : pre.length = b) : fsI (MA pre b nd ch me nT nF cs cT cO cH cN cD mT mF as aT aO aH aN aD cG sA dO dN dD post) (b + 17) (b + 18) 6 xx yy = (MA pre b nd ch me nT nF cs cT cO cH cN cD mT mF as aT aO aH xx yy cG sA dO dN dD post) := by
  unfold fsI
  rw [sMA_aN hb, sMA_aD hb]
theorem gFM_d (h2 : 6 ≤ b) (hb : pre.length = b) : FI (MA pre b nd ch me nT nF cs cT cO cH cN cD mT mF as aT aO aH aN aD cG sA dO dN dD post) (b + 22) (b + 23) (b + 24) 2 dN dD := FI.of (gMA_22 hb) (gMA_23 hb) (gMA_24 hb) (by omega) (by omega) (by omega) (by decide)
theorem sFM_d {xx yy : Int → Int} (hb : pre.length = b) : fsI (MA pre b nd ch me nT nF cs cT cO cH cN cD mT mF as aT aO aH aN aD cG sA dO dN dD post) (b + 23) (b + 24) 2 xx yy = (MA pre b nd ch me nT nF cs cT cO cH cN cD mT mF as aT aO aH aN aD cG sA dO xx yy post) := by
  unfold fsI
  rw [sMA_dN hb, sMA_dD hb]
variable {t f n how : Int} {v : Prop}
theorem c_Ac_need_t {d : Nat}  (h2 : 6 ≤ b) (hb : pre.length = b) (ht : 0 ≤ t ∧ t ≤ 2) (hf : 0 ≤ f ∧ f ≤ 15) (hv : v) : Cg false (d + 1) m_Action_needFact [.ref b, .int (iI t), .int (iI f), .int (bP v)] (MA pre b nd ch me nT nF cs cT cO cH cN cD mT mF as aT aO aH aN aD cG sA dO dN dD post) (.inl none) (MA pre b (nd + 1) ch me (up1 nT t (fun i => nT t i ∨ i = f)) nF cs cT cO cH cN cD mT mF as aT aO aH aN aD cG (up1 sA t (fun i => sA t i ∨ i = f)) dO dN dD post) := by
  refine Cg.of (Nat.le_of_ble_eq_true rfl) ?_
  change Rg _ _ _ _ 0 [(0, .ref b), (1, .int (iI t)), (2, .int (iI f)), (3, .int (bP v))] [] _ _ _
  refine Rg.step 1 F_Action_needFact_0 rfl (fun _ => rfl) ?_
  refine Rg.ifeqP 11 4 F_Action_needFact_1 rfl rfl (fun h1 => absurd hv h1) (fun _ => ?_)
  refine Rg.step 5 F_Action_needFact_4 rfl (fun _ => rfl) ?_
  refine Rg.getf 8 F_Action_needFact_5 rfl rF_17_9 (gMA_0 hb) rfl ?_
  refine Rg.step 15 F_Action_needFact_8 rfl (fun _ => rfl) ?_
  refine Rg.step 17 F_Action_needFact_15 rfl (fun _ => rfl) ?_
  refine Rg.step 19 F_Action_needFact_17 rfl (fun _ => rfl) ?_
  refine Rg.step 20 F_Action_needFact_19 rfl (fun _ => rfl) ?_
  refine Rg.step 21 F_Action_needFact_20 rfl (fun _ => rfl) ?_
  refine Rg.kld 22 F_Action_needFact_21 rfl (gMA_1 hb) (by omega) (by decide) ?_
  refine Rg.step 23 F_Action_needFact_22 rfl (fun _ => rfl) ?_
  refine Rg.call 26 F_Action_needFact_23 rfl (one_S (by decide +kernel) rM_17_58 (by decide) (by simp) rfl rfl) (Nat.le_of_ble_eq_true rfl) (Cg.any (c_factBit (by omega))) ?_
  refine Rg.orK 27 F_Action_needFact_26 rfl ?_
  refine Rg.kst 28 F_Action_needFact_27 rfl (gMA_1 hb) (by omega) (sMA_nT hb) (by omega) (by decide) ?_
  refine Rg.step 29 F_Action_needFact_28 rfl (fun _ => rfl) ?_
  refine Rg.getf 32 F_Action_needFact_29 rfl rF_17_39 (gMA_0 hb) rfl ?_
  refine Rg.step 33 F_Action_needFact_32 rfl (fun _ => rfl) ?_
  refine Rg.step 34 F_Action_needFact_33 rfl (fun _ => rfl) ?_
  refine Rg.kld 35 F_Action_needFact_34 rfl (gMA_20 hb) (by omega) (by decide) ?_
  refine Rg.step 36 F_Action_needFact_35 rfl (fun _ => rfl) ?_
  refine Rg.call 39 F_Action_needFact_36 rfl (one_S (by decide +kernel) rM_17_58 (by decide) (by simp) rfl rfl) (Nat.le_of_ble_eq_true rfl) (Cg.any (c_factBit (by omega))) ?_
  refine Rg.orK 40 F_Action_needFact_39 rfl ?_
  refine Rg.kst 41 F_Action_needFact_40 rfl (gMA_20 hb) (by omega) (sMA_sA hb) (by omega) (by decide) ?_
  refine Rg.step 42 F_Action_needFact_41 rfl (fun _ => rfl) ?_
  refine Rg.step 43 F_Action_needFact_42 rfl (fun _ => rfl) ?_
  refine Rg.getf 46 F_Action_needFact_43 rfl rF_17_62 (gMA_0 hb) rfl ?_
  refine Rg.step 47 F_Action_needFact_46 rfl (fun _ => rfl) ?_
  refine Rg.addI 48 F_Action_needFact_47 rfl ?_
  refine Rg.put 51 F_Action_needFact_48 rfl rF_17_62 (gMA_0 hb) (by omega) (Nat.le_of_ble_eq_true rfl) (Or.inl rfl) rfl (sMA_nd hb) ?_
  exact Rg.retV F_Action_needFact_51 rfl rfl
theorem c_Ac_need_f {d : Nat}  (h2 : 6 ≤ b) (hb : pre.length = b) (ht : 0 ≤ t ∧ t ≤ 2) (hf : 0 ≤ f ∧ f ≤ 15) (hv : ¬ v) : Cg false (d + 1) m_Action_needFact [.ref b, .int (iI t), .int (iI f), .int (bP v)] (MA pre b nd ch me nT nF cs cT cO cH cN cD mT mF as aT aO aH aN aD cG sA dO dN dD post) (.inl none) (MA pre b (nd + 1) ch me nT (up1 nF t (fun i => nF t i ∨ i = f)) cs cT cO cH cN cD mT mF as aT aO aH aN aD cG (up1 sA t (fun i => sA t i ∨ i = f)) dO dN dD post) := by
  refine Cg.of (Nat.le_of_ble_eq_true rfl) ?_
  change Rg _ _ _ _ 0 [(0, .ref b), (1, .int (iI t)), (2, .int (iI f)), (3, .int (bP v))] [] _ _ _
  refine Rg.step 1 F_Action_needFact_0 rfl (fun _ => rfl) ?_
  refine Rg.ifeqP 11 4 F_Action_needFact_1 rfl rfl (fun _ => ?_) (fun h1 => absurd h1 hv)
  refine Rg.step 12 F_Action_needFact_11 rfl (fun _ => rfl) ?_
  refine Rg.getf 15 F_Action_needFact_12 rfl rF_17_15 (gMA_0 hb) rfl ?_
  refine Rg.step 17 F_Action_needFact_15 rfl (fun _ => rfl) ?_
  refine Rg.step 19 F_Action_needFact_17 rfl (fun _ => rfl) ?_
  refine Rg.step 20 F_Action_needFact_19 rfl (fun _ => rfl) ?_
  refine Rg.step 21 F_Action_needFact_20 rfl (fun _ => rfl) ?_
  refine Rg.kld 22 F_Action_needFact_21 rfl (gMA_2 hb) (by omega) (by decide) ?_
  refine Rg.step 23 F_Action_needFact_22 rfl (fun _ => rfl) ?_
  refine Rg.call 26 F_Action_needFact_23 rfl (one_S (by decide +kernel) rM_17_58 (by decide) (by simp) rfl rfl) (Nat.le_of_ble_eq_true rfl) (Cg.any (c_factBit (by omega))) ?_
  refine Rg.orK 27 F_Action_needFact_26 rfl ?_
  refine Rg.kst 28 F_Action_needFact_27 rfl (gMA_2 hb) (by omega) (sMA_nF hb) (by omega) (by decide) ?_
  refine Rg.step 29 F_Action_needFact_28 rfl (fun _ => rfl) ?_
  refine Rg.getf 32 F_Action_needFact_29 rfl rF_17_39 (gMA_0 hb) rfl ?_
  refine Rg.step 33 F_Action_needFact_32 rfl (fun _ => rfl) ?_
  refine Rg.step 34 F_Action_needFact_33 rfl (fun _ => rfl) ?_
  refine Rg.kld 35 F_Action_needFact_34 rfl (gMA_20 hb) (by omega) (by decide) ?_
  refine Rg.step 36 F_Action_needFact_35 rfl (fun _ => rfl) ?_
  refine Rg.call 39 F_Action_needFact_36 rfl (one_S (by decide +kernel) rM_17_58 (by decide) (by simp) rfl rfl) (Nat.le_of_ble_eq_true rfl) (Cg.any (c_factBit (by omega))) ?_
  refine Rg.orK 40 F_Action_needFact_39 rfl ?_
  refine Rg.kst 41 F_Action_needFact_40 rfl (gMA_20 hb) (by omega) (sMA_sA hb) (by omega) (by decide) ?_
  refine Rg.step 42 F_Action_needFact_41 rfl (fun _ => rfl) ?_
  refine Rg.step 43 F_Action_needFact_42 rfl (fun _ => rfl) ?_
  refine Rg.getf 46 F_Action_needFact_43 rfl rF_17_62 (gMA_0 hb) rfl ?_
  refine Rg.step 47 F_Action_needFact_46 rfl (fun _ => rfl) ?_
  refine Rg.addI 48 F_Action_needFact_47 rfl ?_
  refine Rg.put 51 F_Action_needFact_48 rfl rF_17_62 (gMA_0 hb) (by omega) (Nat.le_of_ble_eq_true rfl) (Or.inl rfl) rfl (sMA_nd hb) ?_
  exact Rg.retV F_Action_needFact_51 rfl rfl
theorem c_Ac_make_t {d : Nat}  (h2 : 6 ≤ b) (hb : pre.length = b) (ht : 0 ≤ t ∧ t ≤ 2) (hf : 0 ≤ f ∧ f ≤ 15) (hv : v) : Cg false (d + 1) m_Action_changeFact [.ref b, .int (iI t), .int (iI f), .int (bP v)] (MA pre b nd ch me nT nF cs cT cO cH cN cD mT mF as aT aO aH aN aD cG sA dO dN dD post) (.inl none) (MA pre b nd (ch + 1) me nT nF cs cT cO cH cN cD (up1 mT t (fun i => mT t i ∨ i = f)) mF as aT aO aH aN aD (up1 cG t (fun i => cG t i ∨ i = f)) sA dO dN dD post) := by
  refine Cg.of (Nat.le_of_ble_eq_true rfl) ?_
  change Rg _ _ _ _ 0 [(0, .ref b), (1, .int (iI t)), (2, .int (iI f)), (3, .int (bP v))] [] _ _ _
  refine Rg.step 1 F_Action_changeFact_0 rfl (fun _ => rfl) ?_
  refine Rg.ifeqP 11 4 F_Action_changeFact_1 rfl rfl (fun h1 => absurd hv h1) (fun _ => ?_)
  refine Rg.step 5 F_Action_changeFact_4 rfl (fun _ => rfl) ?_
  refine Rg.getf 8 F_Action_changeFact_5 rfl rF_17_27 (gMA_0 hb) rfl ?_
  refine Rg.step 15 F_Action_changeFact_8 rfl (fun _ => rfl) ?_
  refine Rg.step 17 F_Action_changeFact_15 rfl (fun _ => rfl) ?_
  refine Rg.step 19 F_Action_changeFact_17 rfl (fun _ => rfl) ?_
  refine Rg.step 20 F_Action_changeFact_19 rfl (fun _ => rfl) ?_
  refine Rg.step 21 F_Action_changeFact_20 rfl (fun _ => rfl) ?_
  refine Rg.kld 22 F_Action_changeFact_21 rfl (gMA_10 hb) (by omega) (by decide) ?_
  refine Rg.step 23 F_Action_changeFact_22 rfl (fun _ => rfl) ?_
  refine Rg.call 26 F_Action_changeFact_23 rfl (one_S (by decide +kernel) rM_17_58 (by decide) (by simp) rfl rfl) (Nat.le_of_ble_eq_true rfl) (Cg.any (c_factBit (by omega))) ?_
  refine Rg.orK 27 F_Action_changeFact_26 rfl ?_
  refine Rg.kst 28 F_Action_changeFact_27 rfl (gMA_10 hb) (by omega) (sMA_mT hb) (by omega) (by decide) ?_
  refine Rg.step 29 F_Action_changeFact_28 rfl (fun _ => rfl) ?_
  refine Rg.getf 32 F_Action_changeFact_29 rfl rF_17_36 (gMA_0 hb) rfl ?_
  refine Rg.step 33 F_Action_changeFact_32 rfl (fun _ => rfl) ?_
  refine Rg.step 34 F_Action_changeFact_33 rfl (fun _ => rfl) ?_
  refine Rg.kld 35 F_Action_changeFact_34 rfl (gMA_19 hb) (by omega) (by decide) ?_
  refine Rg.step 36 F_Action_changeFact_35 rfl (fun _ => rfl) ?_
  refine Rg.call 39 F_Action_changeFact_36 rfl (one_S (by decide +kernel) rM_17_58 (by decide) (by simp) rfl rfl) (Nat.le_of_ble_eq_true rfl) (Cg.any (c_factBit (by omega))) ?_
  refine Rg.orK 40 F_Action_changeFact_39 rfl ?_
  refine Rg.kst 41 F_Action_changeFact_40 rfl (gMA_19 hb) (by omega) (sMA_cG hb) (by omega) (by decide) ?_
  refine Rg.step 42 F_Action_changeFact_41 rfl (fun _ => rfl) ?_
  refine Rg.step 43 F_Action_changeFact_42 rfl (fun _ => rfl) ?_
  refine Rg.getf 46 F_Action_changeFact_43 rfl rF_17_73 (gMA_0 hb) rfl ?_
  refine Rg.step 47 F_Action_changeFact_46 rfl (fun _ => rfl) ?_
  refine Rg.addI 48 F_Action_changeFact_47 rfl ?_
  refine Rg.put 51 F_Action_changeFact_48 rfl rF_17_73 (gMA_0 hb) (by omega) (Nat.le_of_ble_eq_true rfl) (Or.inl rfl) rfl (sMA_ch hb) ?_
  exact Rg.retV F_Action_changeFact_51 rfl rfl
theorem c_Ac_make_f {d : Nat}  (h2 : 6 ≤ b) (hb : pre.length = b) (ht : 0 ≤ t ∧ t ≤ 2) (hf : 0 ≤ f ∧ f ≤ 15) (hv : ¬ v) : Cg false (d + 1) m_Action_changeFact [.ref b, .int (iI t), .int (iI f), .int (bP v)] (MA pre b nd ch me nT nF cs cT cO cH cN cD mT mF as aT aO aH aN aD cG sA dO dN dD post) (.inl none) (MA pre b nd (ch + 1) me nT nF cs cT cO cH cN cD mT (up1 mF t (fun i => mF t i ∨ i = f)) as aT aO aH aN aD (up1 cG t (fun i => cG t i ∨ i = f)) sA dO dN dD post) := by
  refine Cg.of (Nat.le_of_ble_eq_true rfl) ?_
  change Rg _ _ _ _ 0 [(0, .ref b), (1, .int (iI t)), (2, .int (iI f)), (3, .int (bP v))] [] _ _ _
  refine Rg.step 1 F_Action_changeFact_0 rfl (fun _ => rfl) ?_
  refine Rg.ifeqP 11 4 F_Action_changeFact_1 rfl rfl (fun _ => ?_) (fun h1 => absurd h1 hv)
  refine Rg.step 12 F_Action_changeFact_11 rfl (fun _ => rfl) ?_
  refine Rg.getf 15 F_Action_changeFact_12 rfl rF_17_30 (gMA_0 hb) rfl ?_
  refine Rg.step 17 F_Action_changeFact_15 rfl (fun _ => rfl) ?_
  refine Rg.step 19 F_Action_changeFact_17 rfl (fun _ => rfl) ?_
  refine Rg.step 20 F_Action_changeFact_19 rfl (fun _ => rfl) ?_
  refine Rg.step 21 F_Action_changeFact_20 rfl (fun _ => rfl) ?_
  refine Rg.kld 22 F_Action_changeFact_21 rfl (gMA_11 hb) (by omega) (by decide) ?_
  refine Rg.step 23 F_Action_changeFact_22 rfl (fun _ => rfl) ?_
  refine Rg.call 26 F_Action_changeFact_23 rfl (one_S (by decide +kernel) rM_17_58 (by decide) (by simp) rfl rfl) (Nat.le_of_ble_eq_true rfl) (Cg.any (c_factBit (by omega))) ?_
  refine Rg.orK 27 F_Action_changeFact_26 rfl ?_
  refine Rg.kst 28 F_Action_changeFact_27 rfl (gMA_11 hb) (by omega) (sMA_mF hb) (by omega) (by decide) ?_
  refine Rg.step 29 F_Action_changeFact_28 rfl (fun _ => rfl) ?_
  refine Rg.getf 32 F_Action_changeFact_29 rfl rF_17_36 (gMA_0 hb) rfl ?_
  refine Rg.step 33 F_Action_changeFact_32 rfl (fun _ => rfl) ?_
  refine Rg.step 34 F_Action_changeFact_33 rfl (fun _ => rfl) ?_
  refine Rg.kld 35 F_Action_changeFact_34 rfl (gMA_19 hb) (by omega) (by decide) ?_
  refine Rg.step 36 F_Action_changeFact_35 rfl (fun _ => rfl) ?_
  refine Rg.call 39 F_Action_changeFact_36 rfl (one_S (by decide +kernel) rM_17_58 (by decide) (by simp) rfl rfl) (Nat.le_of_ble_eq_true rfl) (Cg.any (c_factBit (by omega))) ?_
  refine Rg.orK 40 F_Action_changeFact_39 rfl ?_
  refine Rg.kst 41 F_Action_changeFact_40 rfl (gMA_19 hb) (by omega) (sMA_cG hb) (by omega) (by decide) ?_
  refine Rg.step 42 F_Action_changeFact_41 rfl (fun _ => rfl) ?_
  refine Rg.step 43 F_Action_changeFact_42 rfl (fun _ => rfl) ?_
  refine Rg.getf 46 F_Action_changeFact_43 rfl rF_17_73 (gMA_0 hb) rfl ?_
  refine Rg.step 47 F_Action_changeFact_46 rfl (fun _ => rfl) ?_
  refine Rg.addI 48 F_Action_changeFact_47 rfl ?_
  refine Rg.put 51 F_Action_changeFact_48 rfl rF_17_73 (gMA_0 hb) (by omega) (Nat.le_of_ble_eq_true rfl) (Or.inl rfl) rfl (sMA_ch hb) ?_
  exact Rg.retV F_Action_changeFact_51 rfl rfl
theorem c_Te_tell_c {d : Nat}  (h2 : 6 ≤ b) (hb : pre.length = b) (hh : FI pre 3 4 5 2 handN handD) (hs : 0 ≤ cs ∧ cs < 8) : Cg false (d + 1) m_Terms_tell [.ref (b + 3), .int (iI t), .int (iI n), .int (iI how), .ref 3] (MA pre b nd ch me nT nF cs cT cO cH cN cD mT mF as aT aO aH aN aD cG sA dO dN dD post) (.inl none) (MA pre b nd ch me nT nF (cs + 1) (up1 cT cs t) (up1 cO cs n) (up1 cH cs how) (up1 cN cs (handN 0)) (up1 cD cs (handD 0)) mT mF as aT aO aH aN aD cG sA dO dN dD post) := by
  refine Cg.of (Nat.le_of_ble_eq_true rfl) ?_
  change Rg _ _ _ _ 0 [(0, .ref (b + 3)), (1, .int (iI t)), (2, .int (iI n)), (3, .int (iI how)), (4, .ref 3)] [] _ _ _
  refine Rg.step 1 F_Terms_tell_0 rfl (fun _ => rfl) ?_
  refine Rg.getf 4 F_Terms_tell_1 rfl rF_24_30 (gMA_3 hb) rfl ?_
  refine Rg.step 5 F_Terms_tell_4 rfl (fun _ => rfl) ?_
  refine Rg.getf 8 F_Terms_tell_5 rfl rF_24_9 (gMA_3 hb) rfl ?_
  refine Rg.lenA 9 F_Terms_tell_8 rfl (gMA_4 hb) (aI_len _ _) ?_
  refine Rg.icgeI 66 12 F_Terms_tell_9 rfl rfl (by omega) (by omega) (fun h9 => by omega) (fun _ => ?_)
  refine Rg.step 13 F_Terms_tell_12 rfl (fun _ => rfl) ?_
  refine Rg.getf 16 F_Terms_tell_13 rfl rF_24_9 (gMA_3 hb) rfl ?_
  refine Rg.step 17 F_Terms_tell_16 rfl (fun _ => rfl) ?_
  refine Rg.getf 20 F_Terms_tell_17 rfl rF_24_30 (gMA_3 hb) rfl ?_
  refine Rg.step 21 F_Terms_tell_20 rfl (fun _ => rfl) ?_
  refine Rg.ist 22 F_Terms_tell_21 rfl (gMA_4 hb) (by omega) (sMA_cT hb) (by omega) (by decide) ?_
  refine Rg.step 23 F_Terms_tell_22 rfl (fun _ => rfl) ?_
  refine Rg.getf 26 F_Terms_tell_23 rfl rF_24_15 (gMA_3 hb) rfl ?_
  refine Rg.step 27 F_Terms_tell_26 rfl (fun _ => rfl) ?_
  refine Rg.getf 30 F_Terms_tell_27 rfl rF_24_30 (gMA_3 hb) rfl ?_
  refine Rg.step 31 F_Terms_tell_30 rfl (fun _ => rfl) ?_
  refine Rg.ist 32 F_Terms_tell_31 rfl (gMA_5 hb) (by omega) (sMA_cO hb) (by omega) (by decide) ?_
  refine Rg.step 33 F_Terms_tell_32 rfl (fun _ => rfl) ?_
  refine Rg.getf 36 F_Terms_tell_33 rfl rF_24_18 (gMA_3 hb) rfl ?_
  refine Rg.step 37 F_Terms_tell_36 rfl (fun _ => rfl) ?_
  refine Rg.getf 40 F_Terms_tell_37 rfl rF_24_30 (gMA_3 hb) rfl ?_
  refine Rg.step 41 F_Terms_tell_40 rfl (fun _ => rfl) ?_
  refine Rg.ist 42 F_Terms_tell_41 rfl (gMA_6 hb) (by omega) (sMA_cH hb) (by omega) (by decide) ?_
  refine Rg.step 43 F_Terms_tell_42 rfl (fun _ => rfl) ?_
  refine Rg.getf 46 F_Terms_tell_43 rfl rF_24_26 (gMA_3 hb) rfl ?_
  refine Rg.step 47 F_Terms_tell_46 rfl (fun _ => rfl) ?_
  refine Rg.getf 50 F_Terms_tell_47 rfl rF_24_30 (gMA_3 hb) rfl ?_
  refine Rg.step 52 F_Terms_tell_50 rfl (fun _ => rfl) ?_
  refine Rg.step 53 F_Terms_tell_52 rfl (fun _ => rfl) ?_
  refine Rg.call 56 F_Terms_tell_53 rfl (one_V rM_24_34 (by decide) (by simp) rfl rfl (gMA_7 hb) rfl) (Nat.le_of_ble_eq_true rfl) (Cg.toM (sFM_c hb) (c_FrI_copy _ (gFM_c h2 hb) (FI.app hh) (by omega) (by omega) (by omega))) ?_
  refine Rg.step 57 F_Terms_tell_56 rfl (fun _ => rfl) ?_
  refine Rg.step 58 F_Terms_tell_57 rfl (fun _ => rfl) ?_
  refine Rg.getf 61 F_Terms_tell_58 rfl rF_24_30 (gMA_3 hb) rfl ?_
  refine Rg.step 62 F_Terms_tell_61 rfl (fun _ => rfl) ?_
  refine Rg.addI 63 F_Terms_tell_62 rfl ?_
  refine Rg.put 66 F_Terms_tell_63 rfl rF_24_30 (gMA_3 hb) (by omega) (Nat.le_of_ble_eq_true rfl) (Or.inl rfl) rfl (sMA_cs hb) ?_
  exact Rg.retV F_Terms_tell_66 rfl rfl
theorem c_Ac_compare {d : Nat}  (h2 : 6 ≤ b) (hb : pre.length = b) (hh : FI pre 3 4 5 2 handN handD) (hs : 0 ≤ cs ∧ cs < 8) (ht : 0 ≤ t ∧ t ≤ 2) (hn : 0 ≤ n ∧ n ≤ 7) : Cg false (d + 2) m_Action_needNumber [.ref b, .int (iI t), .int (iI n), .int (iI how), .ref 3] (MA pre b nd ch me nT nF cs cT cO cH cN cD mT mF as aT aO aH aN aD cG sA dO dN dD post) (.inl none) (MA pre b (nd + 1) ch me nT nF (cs + 1) (up1 cT cs t) (up1 cO cs n) (up1 cH cs how) (up1 cN cs (handN 0)) (up1 cD cs (handD 0)) mT mF as aT aO aH aN aD cG (up1 sA t (fun i => sA t i ∨ i = 16 + n)) dO dN dD post) := by
  refine Cg.of (Nat.le_of_ble_eq_true rfl) ?_
  change Rg _ _ _ _ 0 [(0, .ref b), (1, .int (iI t)), (2, .int (iI n)), (3, .int (iI how)), (4, .ref 3)] [] _ _ _
  refine Rg.step 1 F_Action_needNumber_0 rfl (fun _ => rfl) ?_
  refine Rg.getf 4 F_Action_needNumber_1 rfl rF_17_23 (gMA_0 hb) rfl ?_
  refine Rg.step 5 F_Action_needNumber_4 rfl (fun _ => rfl) ?_
  refine Rg.step 6 F_Action_needNumber_5 rfl (fun _ => rfl) ?_
  refine Rg.step 7 F_Action_needNumber_6 rfl (fun _ => rfl) ?_
  refine Rg.step 9 F_Action_needNumber_7 rfl (fun _ => rfl) ?_
  refine Rg.call 12 F_Action_needNumber_9 rfl (one_V rM_17_66 (by decide) (by simp) rfl rfl (gMA_3 hb) rfl) (Nat.le_of_ble_eq_true rfl) (c_Te_tell_c h2 hb hh hs) ?_
  refine Rg.step 13 F_Action_needNumber_12 rfl (fun _ => rfl) ?_
  refine Rg.getf 16 F_Action_needNumber_13 rfl rF_17_39 (gMA_0 hb) rfl ?_
  refine Rg.step 17 F_Action_needNumber_16 rfl (fun _ => rfl) ?_
  refine Rg.step 18 F_Action_needNumber_17 rfl (fun _ => rfl) ?_
  refine Rg.kld 19 F_Action_needNumber_18 rfl (gMA_20 hb) (by omega) (by decide) ?_
  refine Rg.step 20 F_Action_needNumber_19 rfl (fun _ => rfl) ?_
  refine Rg.call 23 F_Action_needNumber_20 rfl (one_S (by decide +kernel) rM_17_70 (by decide) (by simp) rfl rfl) (Nat.le_of_ble_eq_true rfl) (Cg.any (c_numberBit (by omega))) ?_
  refine Rg.orK 24 F_Action_needNumber_23 rfl ?_
  refine Rg.kst 25 F_Action_needNumber_24 rfl (gMA_20 hb) (by omega) (sMA_sA hb) (by omega) (by decide) ?_
  refine Rg.step 26 F_Action_needNumber_25 rfl (fun _ => rfl) ?_
  refine Rg.step 27 F_Action_needNumber_26 rfl (fun _ => rfl) ?_
  refine Rg.getf 30 F_Action_needNumber_27 rfl rF_17_62 (gMA_0 hb) rfl ?_
  refine Rg.step 31 F_Action_needNumber_30 rfl (fun _ => rfl) ?_
  refine Rg.addI 32 F_Action_needNumber_31 rfl ?_
  refine Rg.put 35 F_Action_needNumber_32 rfl rF_17_62 (gMA_0 hb) (by omega) (Nat.le_of_ble_eq_true rfl) (Or.inl rfl) rfl (sMA_nd hb) ?_
  exact Rg.retV F_Action_needNumber_35 rfl rfl
theorem c_Te_tell_a {d : Nat}  (h2 : 6 ≤ b) (hb : pre.length = b) (hh : FI pre 3 4 5 2 handN handD) (hs : 0 ≤ as ∧ as < 6) : Cg false (d + 1) m_Terms_tell [.ref (b + 12), .int (iI t), .int (iI n), .int (iI how), .ref 3] (MA pre b nd ch me nT nF cs cT cO cH cN cD mT mF as aT aO aH aN aD cG sA dO dN dD post) (.inl none) (MA pre b nd ch me nT nF cs cT cO cH cN cD mT mF (as + 1) (up1 aT as t) (up1 aO as n) (up1 aH as how) (up1 aN as (handN 0)) (up1 aD as (handD 0)) cG sA dO dN dD post) := by
  refine Cg.of (Nat.le_of_ble_eq_true rfl) ?_
  change Rg _ _ _ _ 0 [(0, .ref (b + 12)), (1, .int (iI t)), (2, .int (iI n)), (3, .int (iI how)), (4, .ref 3)] [] _ _ _
  refine Rg.step 1 F_Terms_tell_0 rfl (fun _ => rfl) ?_
  refine Rg.getf 4 F_Terms_tell_1 rfl rF_24_30 (gMA_12 hb) rfl ?_
  refine Rg.step 5 F_Terms_tell_4 rfl (fun _ => rfl) ?_
  refine Rg.getf 8 F_Terms_tell_5 rfl rF_24_9 (gMA_12 hb) rfl ?_
  refine Rg.lenA 9 F_Terms_tell_8 rfl (gMA_13 hb) (aI_len _ _) ?_
  refine Rg.icgeI 66 12 F_Terms_tell_9 rfl rfl (by omega) (by omega) (fun h9 => by omega) (fun _ => ?_)
  refine Rg.step 13 F_Terms_tell_12 rfl (fun _ => rfl) ?_
  refine Rg.getf 16 F_Terms_tell_13 rfl rF_24_9 (gMA_12 hb) rfl ?_
  refine Rg.step 17 F_Terms_tell_16 rfl (fun _ => rfl) ?_
  refine Rg.getf 20 F_Terms_tell_17 rfl rF_24_30 (gMA_12 hb) rfl ?_
  refine Rg.step 21 F_Terms_tell_20 rfl (fun _ => rfl) ?_
  refine Rg.ist 22 F_Terms_tell_21 rfl (gMA_13 hb) (by omega) (sMA_aT hb) (by omega) (by decide) ?_
  refine Rg.step 23 F_Terms_tell_22 rfl (fun _ => rfl) ?_
  refine Rg.getf 26 F_Terms_tell_23 rfl rF_24_15 (gMA_12 hb) rfl ?_
  refine Rg.step 27 F_Terms_tell_26 rfl (fun _ => rfl) ?_
  refine Rg.getf 30 F_Terms_tell_27 rfl rF_24_30 (gMA_12 hb) rfl ?_
  refine Rg.step 31 F_Terms_tell_30 rfl (fun _ => rfl) ?_
  refine Rg.ist 32 F_Terms_tell_31 rfl (gMA_14 hb) (by omega) (sMA_aO hb) (by omega) (by decide) ?_
  refine Rg.step 33 F_Terms_tell_32 rfl (fun _ => rfl) ?_
  refine Rg.getf 36 F_Terms_tell_33 rfl rF_24_18 (gMA_12 hb) rfl ?_
  refine Rg.step 37 F_Terms_tell_36 rfl (fun _ => rfl) ?_
  refine Rg.getf 40 F_Terms_tell_37 rfl rF_24_30 (gMA_12 hb) rfl ?_
  refine Rg.step 41 F_Terms_tell_40 rfl (fun _ => rfl) ?_
  refine Rg.ist 42 F_Terms_tell_41 rfl (gMA_15 hb) (by omega) (sMA_aH hb) (by omega) (by decide) ?_
  refine Rg.step 43 F_Terms_tell_42 rfl (fun _ => rfl) ?_
  refine Rg.getf 46 F_Terms_tell_43 rfl rF_24_26 (gMA_12 hb) rfl ?_
  refine Rg.step 47 F_Terms_tell_46 rfl (fun _ => rfl) ?_
  refine Rg.getf 50 F_Terms_tell_47 rfl rF_24_30 (gMA_12 hb) rfl ?_
  refine Rg.step 52 F_Terms_tell_50 rfl (fun _ => rfl) ?_
  refine Rg.step 53 F_Terms_tell_52 rfl (fun _ => rfl) ?_
  refine Rg.call 56 F_Terms_tell_53 rfl (one_V rM_24_34 (by decide) (by simp) rfl rfl (gMA_16 hb) rfl) (Nat.le_of_ble_eq_true rfl) (Cg.toM (sFM_a hb) (c_FrI_copy _ (gFM_a h2 hb) (FI.app hh) (by omega) (by omega) (by omega))) ?_
  refine Rg.step 57 F_Terms_tell_56 rfl (fun _ => rfl) ?_
  refine Rg.step 58 F_Terms_tell_57 rfl (fun _ => rfl) ?_
  refine Rg.getf 61 F_Terms_tell_58 rfl rF_24_30 (gMA_12 hb) rfl ?_
  refine Rg.step 62 F_Terms_tell_61 rfl (fun _ => rfl) ?_
  refine Rg.addI 63 F_Terms_tell_62 rfl ?_
  refine Rg.put 66 F_Terms_tell_63 rfl rF_24_30 (gMA_12 hb) (by omega) (Nat.le_of_ble_eq_true rfl) (Or.inl rfl) rfl (sMA_as hb) ?_
  exact Rg.retV F_Terms_tell_66 rfl rfl
theorem c_Ac_change_s {d : Nat}  (h2 : 6 ≤ b) (hb : pre.length = b) (hh : FI pre 3 4 5 2 handN handD) (hs : 0 ≤ as ∧ as < 6) (ht : 0 ≤ t ∧ t ≤ 2) (hn : 0 ≤ n ∧ n ≤ 7) (hw : how = 0 ∨ how = 3) : Cg false (d + 2) m_Action_changeNumber [.ref b, .int (iI t), .int (iI n), .int (iI how), .ref 3] (MA pre b nd ch me nT nF cs cT cO cH cN cD mT mF as aT aO aH aN aD cG sA dO dN dD post) (.inl none) (MA pre b nd (ch + 1) me nT nF cs cT cO cH cN cD mT mF (as + 1) (up1 aT as t) (up1 aO as n) (up1 aH as how) (up1 aN as (handN 0)) (up1 aD as (handD 0)) (up1 cG t (fun i => cG t i ∨ i = 16 + n)) (up1 sA t (fun i => sA t i ∨ i = 16 + n)) dO dN dD post) := by
  refine Cg.of (Nat.le_of_ble_eq_true rfl) ?_
  change Rg _ _ _ _ 0 [(0, .ref b), (1, .int (iI t)), (2, .int (iI n)), (3, .int (iI how)), (4, .ref 3)] [] _ _ _
  refine Rg.step 1 F_Action_changeNumber_0 rfl (fun _ => rfl) ?_
  refine Rg.getf 4 F_Action_changeNumber_1 rfl rF_17_33 (gMA_0 hb) rfl ?_
  refine Rg.step 5 F_Action_changeNumber_4 rfl (fun _ => rfl) ?_
  refine Rg.step 6 F_Action_changeNumber_5 rfl (fun _ => rfl) ?_
  refine Rg.step 7 F_Action_changeNumber_6 rfl (fun _ => rfl) ?_
  refine Rg.step 9 F_Action_changeNumber_7 rfl (fun _ => rfl) ?_
  refine Rg.call 12 F_Action_changeNumber_9 rfl (one_V rM_17_66 (by decide) (by simp) rfl rfl (gMA_12 hb) rfl) (Nat.le_of_ble_eq_true rfl) (c_Te_tell_a h2 hb hh hs) ?_
  refine Rg.step 13 F_Action_changeNumber_12 rfl (fun _ => rfl) ?_
  refine Rg.getf 16 F_Action_changeNumber_13 rfl rF_17_36 (gMA_0 hb) rfl ?_
  refine Rg.step 17 F_Action_changeNumber_16 rfl (fun _ => rfl) ?_
  refine Rg.step 18 F_Action_changeNumber_17 rfl (fun _ => rfl) ?_
  refine Rg.kld 19 F_Action_changeNumber_18 rfl (gMA_19 hb) (by omega) (by decide) ?_
  refine Rg.step 20 F_Action_changeNumber_19 rfl (fun _ => rfl) ?_
  refine Rg.call 23 F_Action_changeNumber_20 rfl (one_S (by decide +kernel) rM_17_70 (by decide) (by simp) rfl rfl) (Nat.le_of_ble_eq_true rfl) (Cg.any (c_numberBit (by omega))) ?_
  refine Rg.orK 24 F_Action_changeNumber_23 rfl ?_
  refine Rg.kst 25 F_Action_changeNumber_24 rfl (gMA_19 hb) (by omega) (sMA_cG hb) (by omega) (by decide) ?_
  refine Rg.step 26 F_Action_changeNumber_25 rfl (fun _ => rfl) ?_
  refine Rg.step 27 F_Action_changeNumber_26 rfl (fun _ => rfl) ?_
  refine Rg.iceqI 48 30 F_Action_changeNumber_27 rfl rfl (by omega) (by omega) (fun h27 => by omega) (fun _ => ?_)
  refine Rg.step 31 F_Action_changeNumber_30 rfl (fun _ => rfl) ?_
  refine Rg.step 32 F_Action_changeNumber_31 rfl (fun _ => rfl) ?_
  refine Rg.iceqI 48 35 F_Action_changeNumber_32 rfl rfl (by omega) (by omega) (fun h32 => by omega) (fun _ => ?_)
  refine Rg.step 36 F_Action_changeNumber_35 rfl (fun _ => rfl) ?_
  refine Rg.getf 39 F_Action_changeNumber_36 rfl rF_17_39 (gMA_0 hb) rfl ?_
  refine Rg.step 40 F_Action_changeNumber_39 rfl (fun _ => rfl) ?_
  refine Rg.step 41 F_Action_changeNumber_40 rfl (fun _ => rfl) ?_
  refine Rg.kld 42 F_Action_changeNumber_41 rfl (gMA_20 hb) (by omega) (by decide) ?_
  refine Rg.step 43 F_Action_changeNumber_42 rfl (fun _ => rfl) ?_
  refine Rg.call 46 F_Action_changeNumber_43 rfl (one_S (by decide +kernel) rM_17_70 (by decide) (by simp) rfl rfl) (Nat.le_of_ble_eq_true rfl) (Cg.any (c_numberBit (by omega))) ?_
  refine Rg.orK 47 F_Action_changeNumber_46 rfl ?_
  refine Rg.kst 48 F_Action_changeNumber_47 rfl (gMA_20 hb) (by omega) (sMA_sA hb) (by omega) (by decide) ?_
  refine Rg.step 49 F_Action_changeNumber_48 rfl (fun _ => rfl) ?_
  refine Rg.step 50 F_Action_changeNumber_49 rfl (fun _ => rfl) ?_
  refine Rg.getf 53 F_Action_changeNumber_50 rfl rF_17_73 (gMA_0 hb) rfl ?_
  refine Rg.step 54 F_Action_changeNumber_53 rfl (fun _ => rfl) ?_
  refine Rg.addI 55 F_Action_changeNumber_54 rfl ?_
  refine Rg.put 58 F_Action_changeNumber_55 rfl rF_17_73 (gMA_0 hb) (by omega) (Nat.le_of_ble_eq_true rfl) (Or.inl rfl) rfl (sMA_ch hb) ?_
  exact Rg.retV F_Action_changeNumber_58 rfl rfl
theorem c_Ac_change_u {d : Nat}  (h2 : 6 ≤ b) (hb : pre.length = b) (hh : FI pre 3 4 5 2 handN handD) (hs : 0 ≤ as ∧ as < 6) (ht : 0 ≤ t ∧ t ≤ 2) (hn : 0 ≤ n ∧ n ≤ 7) (hw : how = 1 ∨ how = 2) : Cg false (d + 2) m_Action_changeNumber [.ref b, .int (iI t), .int (iI n), .int (iI how), .ref 3] (MA pre b nd ch me nT nF cs cT cO cH cN cD mT mF as aT aO aH aN aD cG sA dO dN dD post) (.inl none) (MA pre b nd (ch + 1) me nT nF cs cT cO cH cN cD mT mF (as + 1) (up1 aT as t) (up1 aO as n) (up1 aH as how) (up1 aN as (handN 0)) (up1 aD as (handD 0)) (up1 cG t (fun i => cG t i ∨ i = 16 + n)) sA dO dN dD post) := by
  refine Cg.of (Nat.le_of_ble_eq_true rfl) ?_
  change Rg _ _ _ _ 0 [(0, .ref b), (1, .int (iI t)), (2, .int (iI n)), (3, .int (iI how)), (4, .ref 3)] [] _ _ _
  refine Rg.step 1 F_Action_changeNumber_0 rfl (fun _ => rfl) ?_
  refine Rg.getf 4 F_Action_changeNumber_1 rfl rF_17_33 (gMA_0 hb) rfl ?_
  refine Rg.step 5 F_Action_changeNumber_4 rfl (fun _ => rfl) ?_
  refine Rg.step 6 F_Action_changeNumber_5 rfl (fun _ => rfl) ?_
  refine Rg.step 7 F_Action_changeNumber_6 rfl (fun _ => rfl) ?_
  refine Rg.step 9 F_Action_changeNumber_7 rfl (fun _ => rfl) ?_
  refine Rg.call 12 F_Action_changeNumber_9 rfl (one_V rM_17_66 (by decide) (by simp) rfl rfl (gMA_12 hb) rfl) (Nat.le_of_ble_eq_true rfl) (c_Te_tell_a h2 hb hh hs) ?_
  refine Rg.step 13 F_Action_changeNumber_12 rfl (fun _ => rfl) ?_
  refine Rg.getf 16 F_Action_changeNumber_13 rfl rF_17_36 (gMA_0 hb) rfl ?_
  refine Rg.step 17 F_Action_changeNumber_16 rfl (fun _ => rfl) ?_
  refine Rg.step 18 F_Action_changeNumber_17 rfl (fun _ => rfl) ?_
  refine Rg.kld 19 F_Action_changeNumber_18 rfl (gMA_19 hb) (by omega) (by decide) ?_
  refine Rg.step 20 F_Action_changeNumber_19 rfl (fun _ => rfl) ?_
  refine Rg.call 23 F_Action_changeNumber_20 rfl (one_S (by decide +kernel) rM_17_70 (by decide) (by simp) rfl rfl) (Nat.le_of_ble_eq_true rfl) (Cg.any (c_numberBit (by omega))) ?_
  refine Rg.orK 24 F_Action_changeNumber_23 rfl ?_
  refine Rg.kst 25 F_Action_changeNumber_24 rfl (gMA_19 hb) (by omega) (sMA_cG hb) (by omega) (by decide) ?_
  refine Rg.step 26 F_Action_changeNumber_25 rfl (fun _ => rfl) ?_
  refine Rg.step 27 F_Action_changeNumber_26 rfl (fun _ => rfl) ?_
  refine Rg.iceqI 48 30 F_Action_changeNumber_27 rfl rfl (by omega) (by omega) (fun h27 => ?_) (fun h27 => ?_)
  · refine Rg.step 49 F_Action_changeNumber_48 rfl (fun _ => rfl) ?_
    refine Rg.step 50 F_Action_changeNumber_49 rfl (fun _ => rfl) ?_
    refine Rg.getf 53 F_Action_changeNumber_50 rfl rF_17_73 (gMA_0 hb) rfl ?_
    refine Rg.step 54 F_Action_changeNumber_53 rfl (fun _ => rfl) ?_
    refine Rg.addI 55 F_Action_changeNumber_54 rfl ?_
    refine Rg.put 58 F_Action_changeNumber_55 rfl rF_17_73 (gMA_0 hb) (by omega) (Nat.le_of_ble_eq_true rfl) (Or.inl rfl) rfl (sMA_ch hb) ?_
    exact Rg.retV F_Action_changeNumber_58 rfl rfl
  · refine Rg.step 31 F_Action_changeNumber_30 rfl (fun _ => rfl) ?_
    refine Rg.step 32 F_Action_changeNumber_31 rfl (fun _ => rfl) ?_
    refine Rg.iceqI 48 35 F_Action_changeNumber_32 rfl rfl (by omega) (by omega) (fun _ => ?_) (fun h32 => by omega)
    refine Rg.step 49 F_Action_changeNumber_48 rfl (fun _ => rfl) ?_
    refine Rg.step 50 F_Action_changeNumber_49 rfl (fun _ => rfl) ?_
    refine Rg.getf 53 F_Action_changeNumber_50 rfl rF_17_73 (gMA_0 hb) rfl ?_
    refine Rg.step 54 F_Action_changeNumber_53 rfl (fun _ => rfl) ?_
    refine Rg.addI 55 F_Action_changeNumber_54 rfl ?_
    refine Rg.put 58 F_Action_changeNumber_55 rfl rF_17_73 (gMA_0 hb) (by omega) (Nat.le_of_ble_eq_true rfl) (Or.inl rfl) rfl (sMA_ch hb) ?_
    exact Rg.retV F_Action_changeNumber_58 rfl rfl
theorem mes_0 {dO : Int → Int} : (fun _ => False) = (fun i => ∃ j, 0 ≤ j ∧ j < 0 ∧ 0 ≤ dO j ∧ i = 16 + dO j) := by
  funext i
  exact propext ⟨False.elim, fun ⟨j, a1, a2, _⟩ => by omega⟩
theorem mes_y {dO : Int → Int} {k : Int} (hk : 0 ≤ k) (h : 0 ≤ dO k) : (fun i => (∃ j, 0 ≤ j ∧ j < k ∧ 0 ≤ dO j ∧ i = 16 + dO j) ∨ i = 16 + dO k) = (fun i => ∃ j, 0 ≤ j ∧ j < k + 1 ∧ 0 ≤ dO j ∧ i = 16 + dO j) := by
  funext i
  refine propext ⟨?_, ?_⟩
  · rintro (⟨j, a1, a2, a3⟩ | z)
    · exact ⟨j, a1, by omega, a3⟩
    · exact ⟨k, hk, by omega, h, z⟩
  · rintro ⟨j, a1, a2, a3, a4⟩
    by_cases e : j = k
    · rw [e] at a4; exact Or.inr a4
    · exact Or.inl ⟨j, a1, by omega, a3, a4⟩
theorem mes_n {dO : Int → Int} {k : Int} (hk : 0 ≤ k) (h : dO k < 0) : (fun i => (∃ j, 0 ≤ j ∧ j < k ∧ 0 ≤ dO j ∧ i = 16 + dO j) ∨ False) = (fun i => ∃ j, 0 ≤ j ∧ j < k + 1 ∧ 0 ≤ dO j ∧ i = 16 + dO j) := by
  funext i
  refine propext ⟨?_, ?_⟩
  · rintro (⟨j, a1, a2, a3⟩ | z)
    · exact ⟨j, a1, by omega, a3⟩
    · exact z.elim
  · rintro ⟨j, a1, a2, a3, a4⟩
    by_cases e : j = k
    · rw [e] at a3; omega
    · exact Or.inl ⟨j, a1, by omega, a3, a4⟩
theorem bd_loop {d n0 : Nat} (h2 : 6 ≤ b) (hb : pre.length = b) (hd : ∀ j, 0 ≤ j → j < 2 → -2 ≤ dO j ∧ dO j ≤ 7) : ∀ (m : Nat) (k : Int), k + m = 2 → 0 ≤ k → Rg false (d + 1) m_Action_boundDuration n0 36 [(6, .int (iI k)), (5, .int (iI 2)), (4, .ref (b + 21)), (0, .ref b), (1, .int (iI t)), (2, .int (iI n)), (3, .ref 3)] [] (MA pre b nd ch (fun i => ∃ j, 0 ≤ j ∧ j < k ∧ 0 ≤ dO j ∧ i = 16 + dO j) nT nF cs cT cO cH cN cD mT mF as aT aO aH aN aD cG sA dO dN dD post) (.inl none) (MA pre b nd ch (fun i => ∃ j, 0 ≤ j ∧ j < 2 ∧ 0 ≤ dO j ∧ i = 16 + dO j) nT nF cs cT cO cH cN cD mT mF as aT aO aH aN aD cG sA dO dN dD post) := by
  intro m
  induction m with
  | zero =>
    intro k hk hk2
    have ek : k = 2 := by omega
    subst ek
    refine Rg.step 38 F_Action_boundDuration_36 rfl (fun _ => rfl) ?_
    refine Rg.step 40 F_Action_boundDuration_38 rfl (fun _ => rfl) ?_
    refine Rg.icgeI 79 43 F_Action_boundDuration_40 rfl rfl (by omega) (by omega) (fun _ => ?_) (fun h40 => by omega)
    exact Rg.retV F_Action_boundDuration_79 rfl rfl
  | succ m ih =>
    intro k hk hk2
    have ht := ih (k + 1) (by omega) (by omega)
    have b1 := hd k hk2 (by omega)
    by_cases h0 : 0 ≤ dO k
    · rw [← mes_y hk2 h0] at ht
      refine Rg.step 38 F_Action_boundDuration_36 rfl (fun _ => rfl) ?_
      refine Rg.step 40 F_Action_boundDuration_38 rfl (fun _ => rfl) ?_
      refine Rg.icgeI 79 43 F_Action_boundDuration_40 rfl rfl (by omega) (by omega) (fun h40 => by omega) (fun _ => ?_)
      refine Rg.step 45 F_Action_boundDuration_43 rfl (fun _ => rfl) ?_
      refine Rg.step 47 F_Action_boundDuration_45 rfl (fun _ => rfl) ?_
      refine Rg.ild 48 F_Action_boundDuration_47 rfl (gMA_21 hb) (by omega) (by decide) ?_
      refine Rg.step 50 F_Action_boundDuration_48 rfl (fun _ => rfl) ?_
      refine Rg.step 51 F_Action_boundDuration_50 rfl (fun _ => rfl) ?_
      refine Rg.step 52 F_Action_boundDuration_51 rfl (fun _ => rfl) ?_
      refine Rg.getf 55 F_Action_boundDuration_52 rfl rF_17_80 (gMA_0 hb) rfl ?_
      refine Rg.step 57 F_Action_boundDuration_55 rfl (fun _ => rfl) ?_
      refine Rg.ifltI 68 60 F_Action_boundDuration_57 rfl rfl (by omega) (fun h57 => by omega) (fun _ => ?_)
      refine Rg.step 62 F_Action_boundDuration_60 rfl (fun _ => rfl) ?_
      refine Rg.call 65 F_Action_boundDuration_62 rfl (one_S (by decide +kernel) rM_17_70 (by decide) (by simp) rfl rfl) (Nat.le_of_ble_eq_true rfl) (Cg.any (c_numberBit (by omega))) ?_
      refine Rg.step 69 F_Action_boundDuration_65 rfl (fun _ => rfl) ?_
      refine Rg.orK 70 F_Action_boundDuration_69 rfl ?_
      refine Rg.put 73 F_Action_boundDuration_70 rfl rF_17_80 (gMA_0 hb) (by omega) (Nat.le_of_ble_eq_true rfl) (Or.inl rfl) rfl (sMA_me hb) ?_
      refine Rg.inc 76 F_Action_boundDuration_73 rfl rfl (by decide) ?_
      refine Rg.step 36 F_Action_boundDuration_76 rfl (fun _ => rfl) ?_
      exact Rg.weak ht (by simp [lput1, lput2, Value.category, fi0, fi1, fi2, fi3] <;> first | rfl | exact ⟨rfl, rfl⟩) (by simp [lput1, lput2, Value.category, fi0, fi1, fi2, fi3] <;> first | rfl | exact ⟨rfl, rfl⟩)
    · rw [← mes_n hk2 (by omega)] at ht
      refine Rg.step 38 F_Action_boundDuration_36 rfl (fun _ => rfl) ?_
      refine Rg.step 40 F_Action_boundDuration_38 rfl (fun _ => rfl) ?_
      refine Rg.icgeI 79 43 F_Action_boundDuration_40 rfl rfl (by omega) (by omega) (fun h40 => by omega) (fun _ => ?_)
      refine Rg.step 45 F_Action_boundDuration_43 rfl (fun _ => rfl) ?_
      refine Rg.step 47 F_Action_boundDuration_45 rfl (fun _ => rfl) ?_
      refine Rg.ild 48 F_Action_boundDuration_47 rfl (gMA_21 hb) (by omega) (by decide) ?_
      refine Rg.step 50 F_Action_boundDuration_48 rfl (fun _ => rfl) ?_
      refine Rg.step 51 F_Action_boundDuration_50 rfl (fun _ => rfl) ?_
      refine Rg.step 52 F_Action_boundDuration_51 rfl (fun _ => rfl) ?_
      refine Rg.getf 55 F_Action_boundDuration_52 rfl rF_17_80 (gMA_0 hb) rfl ?_
      refine Rg.step 57 F_Action_boundDuration_55 rfl (fun _ => rfl) ?_
      refine Rg.ifltI 68 60 F_Action_boundDuration_57 rfl rfl (by omega) (fun _ => ?_) (fun h57 => by omega)
      refine Rg.cK0 69 F_Action_boundDuration_68 rfl ?_
      refine Rg.orK 70 F_Action_boundDuration_69 rfl ?_
      refine Rg.put 73 F_Action_boundDuration_70 rfl rF_17_80 (gMA_0 hb) (by omega) (Nat.le_of_ble_eq_true rfl) (Or.inl rfl) rfl (sMA_me hb) ?_
      refine Rg.inc 76 F_Action_boundDuration_73 rfl rfl (by decide) ?_
      refine Rg.step 36 F_Action_boundDuration_76 rfl (fun _ => rfl) ?_
      exact Rg.weak ht (by simp [lput1, lput2, Value.category, fi0, fi1, fi2, fi3] <;> first | rfl | exact ⟨rfl, rfl⟩) (by simp [lput1, lput2, Value.category, fi0, fi1, fi2, fi3] <;> first | rfl | exact ⟨rfl, rfl⟩)
theorem c_Ac_bound {d : Nat} (h2 : 6 ≤ b) (hb : pre.length = b) (hh : FI pre 3 4 5 2 handN handD) (hd : ∀ j, 0 ≤ j → j < 2 → -2 ≤ dO j ∧ dO j ≤ 7) (ht : 0 ≤ t ∧ t ≤ 1) (hn : -2 ≤ n ∧ n ≤ 7) : Cg false (d + 1) m_Action_boundDuration [.ref b, .int (iI t), .int (iI n), .ref 3] (MA pre b nd ch me nT nF cs cT cO cH cN cD mT mF as aT aO aH aN aD cG sA dO dN dD post) (.inl none) (MA pre b nd ch (fun i => ∃ j, 0 ≤ j ∧ j < 2 ∧ 0 ≤ (up1 dO t n) j ∧ i = 16 + (up1 dO t n) j) nT nF cs cT cO cH cN cD mT mF as aT aO aH aN aD cG sA (up1 dO t n) (up1 dN t (handN 0)) (up1 dD t (handD 0)) post) := by
  have hl := bd_loop (d := d) (n0 := (MA pre b nd ch me nT nF cs cT cO cH cN cD mT mF as aT aO aH aN aD cG sA dO dN dD post).length) (t := t) (n := n) (pre := pre) (post := post) (b := b) (nd := nd) (ch := ch) (nT := nT) (nF := nF) (cs := cs) (cT := cT) (cO := cO) (cH := cH) (cN := cN) (cD := cD) (mT := mT) (mF := mF) (as := as) (aT := aT) (aO := aO) (aH := aH) (aN := aN) (aD := aD) (cG := cG) (sA := sA) (dO := (up1 dO t n)) (dN := (up1 dN t (handN 0))) (dD := (up1 dD t (handD 0))) h2 hb (fun j z1 z2 => by
    by_cases h : j = t
    · rw [h, up1_eq]; exact hn
    · rw [up1_ne _ _ h]; exact hd j z1 z2) 2 0 (by omega) (by omega)
  rw [← mes_0] at hl
  refine Cg.of (Nat.le_of_ble_eq_true rfl) ?_
  change Rg _ _ _ _ 0 [(0, .ref b), (1, .int (iI t)), (2, .int (iI n)), (3, .ref 3)] [] _ _ _
  refine Rg.step 1 F_Action_boundDuration_0 rfl (fun _ => rfl) ?_
  refine Rg.getf 4 F_Action_boundDuration_1 rfl rF_17_42 (gMA_0 hb) rfl ?_
  refine Rg.step 5 F_Action_boundDuration_4 rfl (fun _ => rfl) ?_
  refine Rg.step 6 F_Action_boundDuration_5 rfl (fun _ => rfl) ?_
  refine Rg.ist 7 F_Action_boundDuration_6 rfl (gMA_21 hb) (by omega) (sMA_dO hb) (by omega) (by decide) ?_
  refine Rg.step 8 F_Action_boundDuration_7 rfl (fun _ => rfl) ?_
  refine Rg.getf 11 F_Action_boundDuration_8 rfl rF_17_48 (gMA_0 hb) rfl ?_
  refine Rg.step 12 F_Action_boundDuration_11 rfl (fun _ => rfl) ?_
  refine Rg.step 13 F_Action_boundDuration_12 rfl (fun _ => rfl) ?_
  refine Rg.step 14 F_Action_boundDuration_13 rfl (fun _ => rfl) ?_
  refine Rg.call 17 F_Action_boundDuration_14 rfl (one_V rM_17_76 (by decide) (by simp) rfl rfl (gMA_22 hb) rfl) (Nat.le_of_ble_eq_true rfl) (Cg.toM (sFM_d hb) (c_FrI_copy _ (gFM_d h2 hb) (FI.app hh) (by omega) (by omega) (by omega))) ?_
  refine Rg.step 18 F_Action_boundDuration_17 rfl (fun _ => rfl) ?_
  refine Rg.cK0 19 F_Action_boundDuration_18 rfl ?_
  refine Rg.put 22 F_Action_boundDuration_19 rfl rF_17_80 (gMA_0 hb) (by omega) (Nat.le_of_ble_eq_true rfl) (Or.inl rfl) rfl (sMA_me hb) ?_
  refine Rg.step 23 F_Action_boundDuration_22 rfl (fun _ => rfl) ?_
  refine Rg.getf 26 F_Action_boundDuration_23 rfl rF_17_42 (gMA_0 hb) rfl ?_
  refine Rg.step 28 F_Action_boundDuration_26 rfl (fun _ => rfl) ?_
  refine Rg.step 30 F_Action_boundDuration_28 rfl (fun _ => rfl) ?_
  refine Rg.lenA 31 F_Action_boundDuration_30 rfl (gMA_21 hb) (aI_len _ _) ?_
  refine Rg.step 33 F_Action_boundDuration_31 rfl (fun _ => rfl) ?_
  refine Rg.step 34 F_Action_boundDuration_33 rfl (fun _ => rfl) ?_
  refine Rg.step 36 F_Action_boundDuration_34 rfl (fun _ => rfl) ?_
  exact Rg.weak hl (by simp [lput1, lput2, Value.category, fi0, fi1, fi2, fi3] <;> first | rfl | exact ⟨rfl, rfl⟩) (by simp [lput1, lput2, Value.category, fi0, fi1, fi2, fi3] <;> first | rfl | exact ⟨rfl, rfl⟩)
end R84
