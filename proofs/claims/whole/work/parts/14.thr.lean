/-! Throws: a handler that is found (its kind linked or not yet); an exception that is made and thrown. -/
theorem kin_no {c1 c2 : Nat} {r1 r2 : vw_C} (h1 : CLs[c1]? = some r1) (h2 : CLs[c2]? = some r2) (a1 : 12 ≤ c1) (a2 : 12 ≤ c2) (hne : c2 ≠ c1) : (r1.1, r2.1) ∈ exN := by
  have l1 : c1 < 15 := (List.getElem?_eq_some_iff.mp h1).1
  have l2 : c2 < 15 := (List.getElem?_eq_some_iff.mp h2).1
  have e1 : c1 = 12 ∨ c1 = 13 ∨ c1 = 14 := by omega
  have e2 : c2 = 12 ∨ c2 = 13 ∨ c2 = 14 := by omega
  rcases e1 with rfl | rfl | rfl <;> rcases e2 with rfl | rfl | rfl <;> first
    | exact absurd rfl hne
    | (cases h1; cases h2; decide)
theorem find_to {e : Env} {s : State} {args : Array Value} {f : JFrame} {a : Addr} {cell : Cell} {own : String} {h ci : Nat} {rr : vw_C} (hpl : e.platform.magicAccessors = ({} : Platform).magicAccessors) (hown : s.vm.findClass own = some f.method.cls) (hh : homes[h]? = some own) (hts : ∀ w ∈ lw_t2, w.before args s = true)
    (hobj : ∀ k, cell.vm ≠ .statics k) (hcl : CLs[ci]? = some rr) (hcls : ClassAt s rr.1 cell.cls) (hex : ∀ t ∈ exN, va_Nc t.1 t.2 s) :
    ∀ (hs : List (Nat × Nat × Nat × Nat)) (S : State) (g : Nat), s.WarmedH S.vm → S.heap[a]? = some cell → hnd h f.pc ci hs = some g →
      ∃ vm', s.WarmedH vm' ∧ ∀ (Q : Handler → Pre) (E : CtlPost) (d : Bool) (acts : List Action), wp (findHandler.go f a (tableOf hs)) Q E e d acts S ↔ Q (.found g) d acts (S.setVm vm') := by
  intro hs
  induction hs with
  | nil => intro S g _ _ hg; cases hg
  | cons x r ih =>
    intro S g hW hcell hg
    obtain ⟨x1, x2, x3, x4⟩ := x
    unfold hnd at hg
    have htab : tableOf ((x1, x2, x3, x4) :: r) = ⟨x1, x2, x3, x4⟩ :: tableOf r := rfl
    split at hg
    · rename_i hcov
      have hx : covers ⟨x1, x2, x3, x4⟩ f.pc = true := by simp [covers, hcov]
      split at hg
      · cases hg
      · rename_i c2 hc2
        obtain ⟨own', C, T, N, o1, o2, o3⟩ := rC_ok hc2
        have he : own' = own := Option.some.inj (o1.symm.trans hh)
        subst he
        obtain ⟨ct, hct, hlk⟩ := Cond.classLink_spec hown (hts _ o3) e.platform hpl
        obtain ⟨dk, _, _, kt, hd, _, _, _, _, hkt, _, hopen⟩ := hlk.here
        have hl' := hW.classLinks hlk
        have hW2 : s.WarmedH (S.vm.noted f.method.cls x4 (.cls ct)) := hW.noted hd hopen (State.rightAt_cls hlk)
        have hal : S.vm.Alike (S.vm.noted f.method.cls x4 (.cls ct)) := (Vm.Alike.refl S.vm).noted _ _ _
        obtain ⟨k0, hk0, hkind⟩ := hcls.2
        obtain ⟨k1, hk1, -⟩ := hW2.alike.2.2 _ _ hk0
        obtain ⟨k2, hk2, -⟩ := hW2.alike.2.2 _ _ hkt
        obtain ⟨ha, ht⟩ := (resolveClass_links e.toSetting hl').op (op := VmOp.resolveClass f.method.cls x4) rfl
        have hx' := hx
        simp only [covers] at hx'
        split at hg
        · rename_i hsame
          split at hg
          · cases hg
          · rename_i h0
            cases hg
            subst hsame
            have e1 : (C, T, N) = rr := Option.some.inj (o2.symm.trans hcl)
            subst e1
            have e2 : ct = cell.cls := Option.some.inj (hct.symm.trans hcls.1)
            subst e2
            have hfit : (S.vm.noted f.method.cls x4 (.cls cell.cls)).assignable cell.cls cell.cls = true := by
              rw [hW2.alike.assignable]
              exact va_assign hcls
            refine ⟨_, hW2, fun Q E d acts => ?_⟩
            rw [htab]
            simp [findHandler.go, hx', h0, ha, ht, hcell, hobj, hk1, hk2, hfit, VmOp.dirties, VmOp.acts]
        · rename_i hdiff
          split at hg
          · rename_i h3
            have hno : (S.vm.noted f.method.cls x4 (.cls ct)).assignable cell.cls ct = false := by
              rw [hW2.alike.assignable]
              obtain ⟨c5, t5, f1, f2, f3⟩ := hex _ (kin_no hcl o2 h3.2.1 h3.2.2 hdiff)
              dsimp only at f1 f2
              rw [Option.some.inj (hcls.1.symm.trans f1), Option.some.inj (hct.symm.trans f2)]
              exact f3
            obtain ⟨vm', w1, w2⟩ := ih (S.setVm (S.vm.noted f.method.cls x4 (.cls ct))) g hW2 hcell hg
            refine ⟨vm', w1, fun Q E d acts => ?_⟩
            rw [htab]
            refine Iff.trans ?_ (w2 Q E d acts)
            simp [findHandler.go, hx', h3.1, ha, ht, hcell, hobj, hk1, hk2, hno, VmOp.dirties, VmOp.acts]
          · cases hg
    · rename_i hcov
      obtain ⟨vm', w1, w2⟩ := ih S g hW hcell hg
      refine ⟨vm', w1, fun Q E d acts => ?_⟩
      rw [htab, W.findHandler_go_skip (by simp only [covers]; simp; omega)]
      exact w2 Q E d acts
section CAUGHT
variable {p : Program} {l : Launch} {e : Env} {R : Room} {s : State} {m : MethodId} {args : Array Value} {below : List Frame} {meth : Method} {c : Code}
variable {q : AQ} {D : va_G} {H0 : Heap} {M : MI} {n0 : Nat} {Q : State → Prop} {w : Bool} {pc : Nat} {L : AL} {st : List Value} {mem : AM}
theorem caught_x {T : State} {locs : List Loc} {cells slots : Nat} (X : Stand p l e R s m args below meth c T locs cells slots) {g : JFrame} (hg : g.method = m) {a : Addr} {h : Nat} {vm' : Vm} (hW : s.WarmedH vm')
    (hfind : ∀ (Q : Handler → Pre) (E : CtlPost) (d : Bool) (acts : List Action), wp (findHandler g a) Q E e d acts ((T.setTop g).pushFrame (.throwing a)) ↔ Q (.found h) d acts (((T.setTop g).pushFrame (.throwing a)).setVm vm')) {target : State}
    (hrest : Steps p.tables e below ((T.setVm vm').setTop { g with pc := h, stack := [.ref a] }) target) : Steps p.tables e below ((T.setTop g).pushFrame (.throwing a)) target := by
  have hh : At T g.method c below := by rw [hg]; exact X.here
  obtain ⟨hgo, hw⟩ := hh.throwing a
  refine Steps.head hgo hw ?_
  have one : (stepThrowing e ((T.setTop g).pushFrame (.throwing a)) a (.java g :: T.frames.tail)).1 = (((T.setTop g).pushFrame (.throwing a)).setVm vm').setFrames (.java { g with pc := h, stack := [.ref a] } :: T.frames.tail) := by
    simp only [stepThrowing, searchFrame, vmDo]
    generalize hr : Sem.go _ e false [] ((T.setTop g).pushFrame (.throwing a)) = res
    obtain ⟨as, rfl, -⟩ := Sem.eq_ok_of hr (a := Handler.found h) (s' := ((T.setTop g).pushFrame (.throwing a)).setVm vm') (acts' := []) (by simp [hfind _ _ _ _])
    rfl
  rw [stepThread_throwing (frames_entered hh.top _), one]
  obtain ⟨g₀, hg0⟩ := Option.isSome_iff_exists.mp hh.top
  obtain ⟨r, hr⟩ := State.topJava?_eq_some.mp hg0
  have hr' : (T.setVm vm').frames = .java g₀ :: r := hr
  rw [State.setTop_of_frames _ hr'] at hrest
  have e1 : (((T.setTop g).pushFrame (.throwing a)).setVm vm').setFrames (.java { g with pc := h, stack := [.ref a] } :: T.frames.tail) = (T.setVm vm').setFrames (.java { g with pc := h, stack := [.ref a] } :: T.frames.tail) := by
    rw [State.pushFrame, State.setTop_of_frames _ hr, State.setFrames_setFrames]
    show ((T.setVm vm').setFrames _).setFrames _ = _
    rw [State.setFrames_setFrames]
  rw [e1, hr]
  exact hrest
theorem same_old {s t : State} {cells slots : Nat} (h : s.sameButNew t [] cells slots) {a : Nat} {c : Cell} (hc : s.heap[a]? = some c) : t.heap[a]? = some c := by
  obtain ⟨c', h1, h2, h3, h4⟩ := h.2.2.2.2.2 a c hc
  rw [h1, h2]
  have : c'.slots = c.slots := by
    apply Array.ext h3
    intro i hi hj
    have := h4 i (by simp)
    rw [Array.getElem?_eq_getElem hi, Array.getElem?_eq_getElem hj] at this
    exact Option.some.inj this
  rw [this]
end CAUGHT
