/-! Into a callee; back with an answer. -/
theorem okMI_spec {M : MI} (h : okMI M) {s : State} {args : Array Value} (hts : ∀ w ∈ lw_t2, w.before args s = true) : ∃ (mk : MethodId) (meth : Method) (c : Code), s.methodNamed? (mY M) = some mk ∧ s.vm.method? mk = some meth ∧ meth.code = some c ∧ c.code = mB M ∧ c.maxLocals = mL M ∧ meth.sig.returnType = mR M ∧ meth.locks = false ∧ c.exceptionTable.toList = tableOf (mX M) ∧ parseMethodDescriptor (mY M).desc = some meth.sig := by
  rcases h.2.2.1 with ⟨h1, h2⟩ | ⟨-, h2⟩
  · obtain ⟨mk, hn⟩ := Cond.code_named (hts _ h2)
    obtain ⟨meth, c, a1, a2, a3, a4, a5, a6, a7, a8⟩ := Cond.code_spec hn (hts _ h2)
    refine ⟨mk, meth, c, hn, a1, a2, a3, a4, a5, a6, ?_, a8⟩
    rw [h1]
    have : c.exceptionTable = #[] := by simpa using a7
    rw [this]
    rfl
  · obtain ⟨mk, meth, c, hn, a1, a2, a3, a4, a5, a6, a7, a8⟩ := Cond.codeWith_spec (hts _ h2)
    refine ⟨mk, meth, c, hn, a1, a2, a3, a4, a6, a7, ?_, a8⟩
    rw [← a5]
    exact (table_eq _).symm
section ENTER
variable {p : Program} {l : Launch} {e : Env} {R : Room} {s : State} {m : MethodId} {args : Array Value} {below : List Frame} {meth : Method} {c : Code}
variable {q : AQ} {D : va_G} {H0 : Heap} {M : MI} {n0 : Nat} {Q : State → Prop} {w : Bool} {pc : Nat} {L : AL} {st : List Value} {mem : AM}
/-- the machine stands before a call of M' -/
def Enters (p : Program) (l : Launch) (e : Env) (R : Room) (s : State) (m : MethodId) (args : Array Value) (below : List Frame) (meth : Method) (c : Code) (q : AQ) (M' : MI) (as rest st : List Value) (pc : Nat) (T : State) (ls : Array Slot) (locs : List Loc) (cells slots : Nat) : Prop :=
  ∃ (vm₁ : Vm) (mk : MethodId) (methY : Method) (cY : Code), Stand p l e R s m args below meth c (T.setVm vm₁) locs cells slots ∧ (T.setVm vm₁).methodNamed? (mY M') = some mk ∧ (T.setVm vm₁).vm.method? mk = some methY ∧ methY.code = some cY ∧ cY.maxLocals = mL M' ∧
    ∀ target, Steps p.tables e below (doInvoke e ((T.setVm vm₁).setTop (F0 m pc ls (rest.map (tr q)))) [] mk (as.map (tr q)).toArray).1 target → Steps p.tables e below (T.setTop (F0 m pc ls (st.map (tr q)))) target
theorem enters_S {T : State} {ls : Array Slot} {locs : List Loc} {cells slots : Nat} (X : Stand p l e R s m args below meth c T locs cells slots) (hc : Cx p e s m args meth c D M) {i n kd : Nat} {M' : MI} (hd : decode (mB M) pc = .ok (.invokestatic i, 3)) (hr : rM (mH M) i = some (kd, n, M')) (hk : kd = 0 ∨ kd = 1) (hn : n ≤ st.length) :
    Enters p l e R s m args below meth c q M' (st.take n).reverse (st.drop n) st pc T ls locs cells slots := by
  obtain ⟨own, host, o1, o2, -, o3, o4, o5⟩ := rM_ok hr
  have hts := hc.2.2.2.2.2.1
  have hown : s.vm.findClass own = some m.cls := by rw [Option.some.inj (o1.symm.trans hc.2.2.2.2.2.2.2.2.2)]; exact hc.2.2.2.2.1
  obtain ⟨mk, methY, cY, a1, a2, a3, a4, a5, a6, a7, a8, a9⟩ := okMI_spec o2 hts
  obtain ⟨kP, hkP, -⟩ := className_of_methodNamed a1
  have hinitP : kP.init = .initialized := Cond.initialized_spec (findClass_of_methodNamed a1) hkP (hts _ o2.2.2.2.1)
  have hlen : ((st.take n).reverse.map (tr q)).length = methY.sig.parameters.length := by
    dsimp only at o4
    rw [a9] at o4
    have : methY.sig.parameters.length = n := Option.some.inj o4
    rw [this]
    simp
    omega
  have hstack : (F0 m pc ls (st.map (tr q))).stack = ((st.take n).reverse.map (tr q)).reverse ++ (st.drop n).map (tr q) := by
    show st.map (tr q) = _
    rw [← List.map_reverse, List.reverse_reverse, ← List.map_append, List.take_append_drop]
  have hdc : decode c.code (F0 m pc ls (st.map (tr q))).pc = .ok (.invokestatic i, 3) := by rw [hc.2.1]; exact hd
  have fin : ∀ vm₁, Stand p l e R s m args below meth c (T.setVm vm₁) locs cells slots → (∀ target, (∀ acts, Steps p.tables e below (doInvoke e ((T.setVm vm₁).setTop { F0 m pc ls (st.map (tr q)) with stack := (st.drop n).map (tr q) }) acts mk ((st.take n).reverse.map (tr q)).toArray).1 target) → Steps p.tables e below (T.setTop (F0 m pc ls (st.map (tr q)))) target) →
      Enters p l e R s m args below meth c q M' (st.take n).reverse (st.drop n) st pc T ls locs cells slots := fun vm₁ X₁ hs =>
    ⟨vm₁, mk, methY, cY, X₁, X₁.named a1, by rw [X₁.warmed.alike.method?]; exact a2, a3, a5, fun target h => hs target (fun acts => by rw [doInvoke_state]; exact h)⟩
  rcases o5 with ⟨h0, h1, h2⟩ | ⟨h0, h1, h2⟩ | ⟨h0, -⟩ | ⟨h0, -⟩ | ⟨h0, -⟩ | ⟨h0, -⟩
  · obtain ⟨vm₁, X₁, hs⟩ := X.invokestatic hc.1 hown (hts _ h1) a1 a2 (Cond.static_spec a1 a2 (hts _ h2)) hkP hinitP o3 (g := F0 m pc ls (st.map (tr q))) rfl hlen hstack hdc
    exact fin vm₁ X₁ hs
  · obtain ⟨vm₁, X₁, hs⟩ := X.invokestaticNest hc.1 hown (hts _ h1) a1 a2 (Cond.static_spec a1 a2 (hts _ h2)) hkP hinitP o3 (g := F0 m pc ls (st.map (tr q))) rfl hlen hstack hdc
    exact fin vm₁ X₁ hs
  all_goals (dsimp only at h0; omega)
theorem enters_I {T : State} {ls : Array Slot} {locs : List Loc} {cells slots : Nat} (X : Stand p l e R s m args below meth c T locs cells slots) (hc : Cx p e s m args meth c D M) {i n kd a : Nat} {r : List Value} {M' : MI} (hd : decode (mB M) pc = .ok (.invokespecial i, 3)) (hr : rM (mH M) i = some (kd, n, M')) (hk : kd = 2 ∨ kd = 3) (hn : n ≤ st.length) (hst : st.drop n = .ref a :: r) :
    Enters p l e R s m args below meth c q M' (.ref a :: (st.take n).reverse) r st pc T ls locs cells slots := by
  obtain ⟨own, host, o1, o2, o9, o3, o4, o5⟩ := rM_ok hr
  have hts := hc.2.2.2.2.2.1
  have hown : s.vm.findClass own = some m.cls := by rw [Option.some.inj (o1.symm.trans hc.2.2.2.2.2.2.2.2.2)]; exact hc.2.2.2.2.1
  have hx : mX M' = [] := by
    rcases o9 with h | h
    · dsimp only at h
      omega
    · exact h
  have hcode : (Cond.code (mY M') (mB M') (mL M') (mR M')).before args s = true := by
    rcases o2.2.2.1 with ⟨-, h2⟩ | ⟨h2, -⟩
    · exact hts _ h2
    · exact absurd hx h2
  have hpl : e.platform.magicAccessors = ({} : Platform).magicAccessors := by rw [X.admits.platform]
  obtain ⟨mk, methY, cY, a1, a2, a3, a4, a5, a6, a7, a8, a9⟩ := okMI_spec o2 hts
  have hlen : ∀ sig, parseMethodDescriptor (mY M').desc = some sig → ((st.take n).reverse.map (tr q)).length = sig.parameters.length := by
    intro sig h
    dsimp only at o4
    rw [h] at o4
    have : sig.parameters.length = n := Option.some.inj o4
    rw [this]
    simp
    omega
  have hstack : (F0 m pc ls (st.map (tr q))).stack = ((st.take n).reverse.map (tr q)).reverse ++ .ref (ad q a) :: r.map (tr q) := by
    show st.map (tr q) = _
    have : Value.ref (ad q a) :: r.map (tr q) = (st.drop n).map (tr q) := by rw [hst]; rfl
    rw [this, ← List.map_reverse, List.reverse_reverse, ← List.map_append, List.take_append_drop]
  have hdc : decode c.code (F0 m pc ls (st.map (tr q))).pc = .ok (.invokespecial i, 3) := by rw [hc.2.1]; exact hd
  have fin : ∀ (tm : MethodId) (vm₁ : Vm), s.methodNamed? (mY M') = some tm → s.WarmedH vm₁ → (∀ target, (∀ acts, Steps p.tables e below (doInvoke e ((T.setVm vm₁).setTop { F0 m pc ls (st.map (tr q)) with stack := r.map (tr q) }) acts tm (.ref (ad q a) :: (st.take n).reverse.map (tr q)).toArray).1 target) → Steps p.tables e below (T.setTop (F0 m pc ls (st.map (tr q)))) target) →
      Enters p l e R s m args below meth c q M' (.ref a :: (st.take n).reverse) r st pc T ls locs cells slots := fun tm vm₁ htm hW hs => by
    cases Option.some.inj (a1.symm.trans htm)
    have X₁ := X.noted hW
    exact ⟨vm₁, mk, methY, cY, X₁, X₁.named a1, by rw [X₁.warmed.alike.method?]; exact a2, a3, a5, fun target h => hs target (fun acts => by rw [doInvoke_state]; exact h)⟩
  rcases o5 with ⟨h0, -⟩ | ⟨h0, -⟩ | ⟨h0, h1, h2, h3, h4⟩ | ⟨h0, h1, h2, h3, h4⟩ | ⟨h0, -⟩ | ⟨h0, -⟩
  · dsimp only at h0; omega
  · dsimp only at h0; omega
  · rw [h4] at hcode
    obtain ⟨tm, -, -, -, vm₁, b1, -, -, -, -, -, -, -, hW₁, hs⟩ := Steps.initColdArgs (e := e) X.here hc.1 X.warmed hpl hown h3 o3 (hts _ h1) (hts _ h2) hcode (f := F0 m pc ls (st.map (tr q))) rfl hlen hstack hdc
    exact fin tm vm₁ b1 hW₁ hs
  · rw [h4] at hcode
    obtain ⟨tm, -, -, -, vm₁, b1, -, -, -, -, -, -, -, hW₁, hs⟩ := Steps.initColdArgsNest (e := e) X.here hc.1 X.warmed hpl hown h3 o3 (hts _ h1) (hts _ h2) hcode (f := F0 m pc ls (st.map (tr q))) rfl hlen hstack hdc
    exact fin tm vm₁ b1 hW₁ hs
  · dsimp only at h0; omega
  · dsimp only at h0; omega
theorem clH_ok {ci h : Nat} {rr : vw_C} (h1 : clH[ci]? = some h) (h2 : CLs[ci]? = some rr) : homes[h]? = some rr.1 := by
  have hl : ci < 15 := (List.getElem?_eq_some_iff.mp h1).1
  have hc : ci = 0 ∨ ci = 1 ∨ ci = 2 ∨ ci = 3 ∨ ci = 4 ∨ ci = 5 ∨ ci = 6 ∨ ci = 7 ∨ ci = 8 ∨ ci = 9 ∨ ci = 10 ∨ ci = 11 ∨ ci = 12 ∨ ci = 13 ∨ ci = 14 := by omega
  rcases hc with rfl | rfl | rfl | rfl | rfl | rfl | rfl | rfl | rfl | rfl | rfl | rfl | rfl | rfl | rfl <;> cases h1 <;> cases h2 <;> rfl
theorem enters_V {T : State} {ls : Array Slot} {locs : List Loc} {cells slots : Nat} (X : Stand p l e R s m args below meth c T locs cells slots) (hc : Cx p e s m args meth c D M) {i n kd a ci : Nat} {r fs : List Value} {M' : MI} (hH : HR q D s H0 mem T.heap) (hd : decode (mB M) pc = .ok (.invokevirtual i, 3)) (hr : rM (mH M) i = some (kd, n, M')) (hk : kd = 4 ∨ kd = 5) (hn : n ≤ st.length) (hst : st.drop n = .ref a :: r) (hm : mem[a]? = some (.inr (ci, fs))) (hci : clH[ci]? = some (mH M')) :
    Enters p l e R s m args below meth c q M' (.ref a :: (st.take n).reverse) r st pc T ls locs cells slots := by
  obtain ⟨own, host, o1, o2, o9, o3, o4, o5⟩ := rM_ok hr
  have hts := hc.2.2.2.2.2.1
  have hown : s.vm.findClass own = some m.cls := by rw [Option.some.inj (o1.symm.trans hc.2.2.2.2.2.2.2.2.2)]; exact hc.2.2.2.2.1
  obtain ⟨mk, methY, cY, a1, a2, a3, a4, a5, a6, a7, a8, a9⟩ := okMI_spec o2 hts
  obtain ⟨rr, c1, c2, cell, q1, q2, q3, q4⟩ := hH.2.2.2.2 a _ hm
  have hname : rr.1 = (mY M').cls := Option.some.inj ((clH_ok hci c1).symm.trans o2.1)
  have hcls : s.vm.findClass (mY M').cls = some cell.cls := by
    rw [← hname, q2]
    exact (hc.2.2.2.2.2.2.1.1 ci _ c1).2.1
  have hlen : ((st.take n).reverse.map (tr q)).length = methY.sig.parameters.length := by
    dsimp only at o4
    rw [a9] at o4
    have : methY.sig.parameters.length = n := Option.some.inj o4
    rw [this]
    simp
    omega
  have hstack : (F0 m pc ls (st.map (tr q))).stack = ((st.take n).reverse.map (tr q)).reverse ++ .ref (ad q a) :: r.map (tr q) := by
    show st.map (tr q) = _
    have : Value.ref (ad q a) :: r.map (tr q) = (st.drop n).map (tr q) := by rw [hst]; rfl
    rw [this, ← List.map_reverse, List.reverse_reverse, ← List.map_append, List.take_append_drop]
  have hdc : decode c.code (F0 m pc ls (st.map (tr q))).pc = .ok (.invokevirtual i, 3) := by rw [hc.2.1]; exact hd
  have fin : ∀ vm₁, Stand p l e R s m args below meth c (T.setVm vm₁) locs cells slots → (∀ target, (∀ acts, Steps p.tables e below (doInvoke e ((T.setVm vm₁).setTop { F0 m pc ls (st.map (tr q)) with stack := r.map (tr q) }) acts mk (.ref (ad q a) :: (st.take n).reverse.map (tr q)).toArray).1 target) → Steps p.tables e below (T.setTop (F0 m pc ls (st.map (tr q)))) target) →
      Enters p l e R s m args below meth c q M' (.ref a :: (st.take n).reverse) r st pc T ls locs cells slots := fun vm₁ X₁ hs =>
    ⟨vm₁, mk, methY, cY, X₁, X₁.named a1, by rw [X₁.warmed.alike.method?]; exact a2, a3, a5, fun target h => hs target (fun acts => by rw [doInvoke_state]; exact h)⟩
  have key : Cond.instanceMethod (mY M') ∈ lw_t2 → Cond.selects (mY M').cls (mY M') (mY M') ∈ lw_t2 → methY.isStatic = false ∧ methY.isAbstract = false ∧ selectMethod e.platform s.vm cell.cls mk = .method mk ∧ ∃ kP, s.vm.classes[mk.cls]? = some kP ∧ kP.isInterface = false := by
    intro h2 h3
    obtain ⟨mk', methM, hnamed, hmethM, hstM, habM⟩ := Cond.instanceMethod_spec (hts _ h2)
    cases Option.some.inj (a1.symm.trans hnamed)
    cases Option.some.inj (a2.symm.trans hmethM)
    obtain ⟨c2, r2, m2, q1, q2, q3, q4, kP, hkP, hkPi⟩ := Cond.selects_spec (hts _ h3)
    cases Option.some.inj (hcls.symm.trans q1)
    cases Option.some.inj ((State.methodFound?_of_named hnamed o3).symm.trans q2)
    cases Option.some.inj (hnamed.symm.trans q3)
    exact ⟨hstM, habM, by rw [Launch.admits_selectMethod X.admits]; exact q4, kP, hkP, hkPi⟩
  rcases o5 with ⟨h0, -⟩ | ⟨h0, -⟩ | ⟨h0, -⟩ | ⟨h0, -⟩ | ⟨h0, h1, h2, h3⟩ | ⟨h0, h1, h2, h3⟩
  · dsimp only at h0; omega
  · dsimp only at h0; omega
  · dsimp only at h0; omega
  · dsimp only at h0; omega
  · obtain ⟨hstM, habM, hsel, kP, hkP, hkPi⟩ := key h2 h3
    obtain ⟨vm₁, X₁, hs⟩ := X.invokevirtual hc.1 hown (hts _ h1) a1 a2 hstM hkP hkPi o3 (a := ad q a) (cell := cell) q1 (fun z h => by rw [h] at q3; cases q3) hsel a2 habM hkP hkPi (g := F0 m pc ls (st.map (tr q))) rfl hlen hstack hdc
    exact fin vm₁ X₁ hs
  · obtain ⟨hstM, habM, hsel, kP, hkP, hkPi⟩ := key h2 h3
    obtain ⟨vm₁, X₁, hs⟩ := X.invokevirtualNest hc.1 hown (hts _ h1) a1 a2 hstM hkP hkPi o3 (a := ad q a) (cell := cell) q1 (fun z h => by rw [h] at q3; cases q3) hsel a2 habM hkP hkPi (g := F0 m pc ls (st.map (tr q))) rfl hlen hstack hdc
    exact fin vm₁ X₁ hs
end ENTER
