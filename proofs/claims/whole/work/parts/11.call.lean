/-! Calls: what a callee's end is; a callee's contract; a call's two ends. -/
def OutR (q : AQ) (x : Option Value ⊕ Nat) (o : Outcome) : Prop := match x with
  | .inl v => o = .returned (v.map (tr q))
  | .inr k => o = .threw (ad q k)
/-- how a walk ends: the answer, the memory, nothing else changed, N cells made -/
def EP (q : AQ) (D : va_G) (H0 : Heap) (r : RS) (N : Nat) (s : State) (o : Outcome) (t : State) : Prop :=
  OutR q r.1 o ∧ HR q D s H0 r.2.1 t.heap ∧ s.WarmedH t.vm ∧ ∃ L, s.sameButNew ({ t with vm := s.vm } : State) L N (100 * N) ∧ (∀ x ∈ L, q.2.2 ≤ x.base) ∧ (r.2.2 = false → L = [])
def EQ (below : List Frame) (q : AQ) (D : va_G) (H0 : Heap) (r : RS) (N : Nat) (s : State) : State → Prop := fun t => ∃ o, t.status = .running ∧ Ended t below o ∧ EP q D H0 r N s o t
theorem W.mono {p : Program} {l : Launch} {e : Env} {R : Room} {s : State} {m : MethodId} {args : Array Value} {below : List Frame} {meth : Method} {c : Code} {H : Heap} {locs : List Loc} {cells slots : Nat} {Q Q' : State → Prop} {g : JFrame} (h : ∀ t, Q t → Q' t) (k : W p l e R s m args below meth c H locs cells slots Q g) : W p l e R s m args below meth c H locs cells slots Q' g := by
  intro T hT X
  obtain ⟨t, a, b⟩ := k T hT X
  exact ⟨t, a, h t b⟩
theorem word_x {w : Cond} {s U : State} {args a' : Array Value} (hW : s.WarmedH U.vm) (h : wOK w = true) (hb : w.before args s = true) : w.before a' U = true := by
  cases w
  case fieldLinkNest => exact va_Nw.use rfl (va_Nw.warmF hW (va_Nw.of rfl hb))
  case methodLinkNest => exact va_Nw.use rfl (va_Nw.warmM hW (va_Nw.of rfl hb))
  case declares => exact va_Nw.use rfl (va_Nw.warmD hW (va_Nw.of rfl hb))
  case castable a b =>
    refine va_tabs (A := args) rfl (rfl : (s.setVm U.vm).vm = U.vm) ?_
    rw [Cond.castable_setVm hW.alike]
    exact hb
  case arrayOver ty =>
    cases ty with
    | object C => exact va_AO.use (va_AO.moved hW.alike (va_AO.of hb))
    | _ => exact word_at hW (good_of_word h) hb
  case privateMethod x =>
    refine va_tabs (A := args) rfl (rfl : (s.setVm U.vm).vm = U.vm) ?_
    rw [Cond.privateMethod_setVm hW.alike]
    exact hb
  all_goals exact word_at hW (good_of_word h) hb
theorem words_x {s U : State} {args a' : Array Value} (hW : s.WarmedH U.vm) (hb : ∀ w ∈ lw_t2, w.before args s = true) : ∀ w ∈ lw_t2, w.before a' U = true :=
  fun w hw => word_x hW (List.mem_filter.mp hw).2 (hb w hw)
section CALL
variable {p : Program} {l : Launch} {e : Env} {R : Room} {s : State} {m : MethodId} {args : Array Value} {below : List Frame} {meth : Method} {c : Code}
variable {q : AQ} {D : va_G} {H0 : Heap}
/-- a callee's contract: from these arguments and this memory it ends with r -/
def MX (l : Launch) (q : AQ) (D : va_G) (H0 : Heap) (y : MethodName) (rm : Room) (as : List Value) (mem : AM) (r : RS) (N : Nat) (K : State → Prop) : Prop :=
  MetFree l y (headSpec lw_t2 rm) (fun a U => a = (as.map (tr q)).toArray ∧ HR q D U H0 mem U.heap ∧ va_K D CLs [] U ∧ K U) (fun _ _ _ _ _ => True) (fun _ U o t => EP q D H0 r N U o t)
def MXr (l : Launch) (q : AQ) (D : va_G) (H0 : Heap) (y : MethodName) (rm : Room) (A : Array Value) (mem : AM) (r : RS) (N : Nat) (K : State → Prop) : Prop :=
  MetFree l y (headSpec lw_t2 rm) (fun a U => a = A ∧ HR q D U H0 mem U.heap ∧ va_K D CLs [] U ∧ K U) (fun _ _ _ _ _ => True) (fun _ U o t => EP q D H0 r N U o t)
theorem call_raw {T : State} {locs : List Loc} {cells slots : Nat} (X : Stand p l e R s m args below meth c T locs cells slots) (hts : ∀ w ∈ lw_t2, w.before args s = true) {y : MethodName} {rm : Room} {A : Array Value} {mem : AM} {r : RS} {N : Nat} {K : State → Prop}
    (hM : MXr l q D H0 y rm A mem r N K) (hN : rm.cells = N) (hN2 : rm.slots = 100 * N) {mk : MethodId} (hn : T.methodNamed? y = some mk) {methY : Method} {cY : Code} (hmY : T.vm.method? mk = some methY) (hcY : methY.code = some cY) {maxL : Nat} (hlY : cY.maxLocals = maxL) (hini : (Cond.initialized y.cls).before args s = true)
    {g : JFrame} (hg : g.method = m) (hsize : g.locals.size = c.maxLocals) {ig : Instr} {len : Nat} (hdg : decode c.code g.pc = .ok (ig, len)) (hframes : rm.frames + 1 ≤ R.frames) (hlocals : 2 * g.monitorRoom + (g.stack.map fun v => v.category).sum + (maxL + 11) + rm.locals ≤ R.locals) (hcells : cells + N ≤ R.cells) (hslots : slots + 100 * N ≤ R.slots)
    (hH : HR q D s H0 mem T.heap) (hK : va_K D CLs [] s) (hKK : K (T.calling g mk A)) :
    ∃ (T' : State) (L : List Loc), Stand p l e R s m args below meth c T' (locs ++ L) (cells + N) (slots + 100 * N) ∧ HR q D s H0 r.2.1 T'.heap ∧ (∀ x ∈ L, q.2.2 ≤ x.base) ∧ (r.2.2 = false → L = []) ∧
      (∀ v, r.1 = .inl v → Steps p.tables e below (doInvoke e (T.setTop g) [] mk A).1 (T'.setTop { g with pc := g.pc + len, stack := (v.map (tr q)).toList ++ g.stack })) ∧
      (∀ k, r.1 = .inr k → Steps p.tables e below (doInvoke e (T.setTop g) [] mk A).1 ((T'.setTop g).pushFrame (.throwing (ad q k)))) := by
  have hpre : ∀ w ∈ lw_t2, w.before A T = true := words_x X.warmed hts
  obtain ⟨kY, hkY, -⟩ := className_of_methodNamed hn
  have hini2 : (Cond.initialized y.cls).before A T = true := word_at X.warmed (Or.inl (by first | rfl | simp [Cond.onTables, Cond.keeps, Cond.steady])) hini
  have hinitY : kY.init = .initialized := Cond.initialized_spec (findClass_of_methodNamed hn) hkY hini2
  have h : At T g.method c below := by rw [hg]; exact X.here
  have happ : (headSpec lw_t2 rm).appliesLoose y e.platform (T.calling g mk A) = true :=
    Spec.appliesLoose_calling (g := g) h hdg hn hkY hinitY
      (X.room_calling (g := g) (R' := rm) hsize hmY hcY hframes (by rw [hlY]; exact hlocals) (by rw [hN]; exact hcells) (by rw [hN2]; exact hslots)) (atoms_intro hpre)
  obtain ⟨mid, hmid⟩ := h.above
  have hfr : (T.setTop g).frames = (.java g :: mid) ++ below := by rw [State.frames_setTop' g h.top, hmid]; rfl
  have hcv : s.vm.Alike (T.calling g mk A).vm := X.warmed.alike
  obtain ⟨o, s₂, hsteps, -, hend, hq⟩ := Steps.callFree hM p X.admits X.cas X.clock (acts := []) hfr happ ⟨rfl, HR.moved hcv hH, va_K.moved hcv hK, hKK⟩ trivial
  have hq' : EP q D H0 r N (T.calling g mk A) o s₂ := hq
  rw [State.frames_setTop' g h.top] at hend
  obtain ⟨hout, hHR, hW₂, L, ⟨e2, q2, q3, q4, q5, q6⟩, hL1, hL2⟩ := hq'
  have e3 : s₂ = ({ (T.calling g mk A).setFrames s₂.frames with heap := s₂.heap, slotsUsed := s₂.slotsUsed } : State).setVm s₂.vm := by
    have : s₂ = ({ s₂ with vm := (T.calling g mk A).vm } : State).setVm s₂.vm := rfl
    rw [e2] at this
    exact this
  have hW' : T.WarmedH s₂.vm := hW₂
  obtain ⟨g₀, hg0⟩ := Option.isSome_iff_exists.mp h.top
  obtain ⟨rr, hr⟩ := State.topJava?_eq_some.mp hg0
  have hr' : (({ T with heap := s₂.heap, slotsUsed := s₂.slotsUsed } : State).setVm s₂.vm).frames = .java g₀ :: rr := hr
  have hsame : T.sameButNew ({ T with heap := s₂.heap, slotsUsed := s₂.slotsUsed } : State) L N (100 * N) := by
    refine ⟨?_, q2, q3, q4, q5, q6⟩
    obtain ⟨t, ht, -⟩ := State.frames_cons hr
    show ({ T with heap := s₂.heap, slotsUsed := s₂.slotsUsed } : State) = { T.setFrames T.frames with heap := s₂.heap, slotsUsed := s₂.slotsUsed }
    rw [State.setFrames_self ht]
  refine ⟨({ T with heap := s₂.heap, slotsUsed := s₂.slotsUsed } : State).setVm s₂.vm, L,
    ⟨X.admits, X.cas, X.clock, X.frames, X.room, X.hears, X.method, X.code, (X.here.setHeapUsed s₂.heap s₂.slotsUsed).setVm hW'.alike, X.tail, State.WarmedH.trans X.warmed hW', X.limits, X.bytes, X.same.trans (hsame.setVm s.vm)⟩,
    HR.moved hcv.symm hHR, hL1, hL2, ?_, ?_⟩
  · intro v hv
    rw [hv] at hout
    have ho : o = .returned (v.map (tr q)) := hout
    subst ho
    obtain ⟨c₂, i₂, len₂, hc₂, hd₂, hf₂⟩ := hend
    have hcc : c₂ = c := by
      have h1 : s₂.code? g.method = T.code? g.method := by
        rw [State.code?_eq, State.code?_eq, hW'.alike.method?]
      exact Option.some.inj (hc₂.symm.trans (h1.trans h.code))
    subst hcc
    have hlen : len₂ = len := by rw [hdg] at hd₂; cases hd₂; rfl
    subst hlen
    have hs₂ : s₂ = (({ T with heap := s₂.heap, slotsUsed := s₂.slotsUsed } : State).setVm s₂.vm).setTop { g with pc := g.pc + len₂, stack := (v.map (tr q)).toList ++ g.stack } := by
      refine e3.trans ?_
      rw [hf₂, State.calling_eq h.top, State.setFrames_setFrames, State.setTop_of_frames _ hr', hr]
      rfl
    rw [← hs₂]
    exact hsteps
  · intro k hk
    rw [hk] at hout
    have ho : o = .threw (ad q k) := hout
    subst ho
    have hf₂ : s₂.frames = .throwing (ad q k) :: .java g :: T.frames.tail := hend
    have hs₂ : s₂ = ((({ T with heap := s₂.heap, slotsUsed := s₂.slotsUsed } : State).setVm s₂.vm).setTop g).pushFrame (.throwing (ad q k)) := by
      refine e3.trans ?_
      rw [hf₂, State.calling_eq h.top, State.setFrames_setFrames, State.pushFrame, State.frames_setTop _ hr', State.setTop_of_frames _ hr', State.setFrames_setFrames, hr]
      rfl
    rw [← hs₂]
    exact hsteps
theorem call_core {T : State} {locs : List Loc} {cells slots : Nat} (X : Stand p l e R s m args below meth c T locs cells slots) (hts : ∀ w ∈ lw_t2, w.before args s = true) {y : MethodName} {rm : Room} {as : List Value} {mem : AM} {r : RS} {N : Nat} {K : State → Prop}
    (hM : MX l q D H0 y rm as mem r N K) (hN : rm.cells = N) (hN2 : rm.slots = 100 * N) {mk : MethodId} (hn : T.methodNamed? y = some mk) {methY : Method} {cY : Code} (hmY : T.vm.method? mk = some methY) (hcY : methY.code = some cY) {maxL : Nat} (hlY : cY.maxLocals = maxL) (hini : (Cond.initialized y.cls).before args s = true)
    {g : JFrame} (hg : g.method = m) (hsize : g.locals.size = c.maxLocals) {ig : Instr} {len : Nat} (hdg : decode c.code g.pc = .ok (ig, len)) (hframes : rm.frames + 1 ≤ R.frames) (hlocals : 2 * g.monitorRoom + (g.stack.map fun v => v.category).sum + (maxL + 11) + rm.locals ≤ R.locals) (hcells : cells + N ≤ R.cells) (hslots : slots + 100 * N ≤ R.slots)
    (hH : HR q D s H0 mem T.heap) (hK : va_K D CLs [] s) (hKK : K (T.calling g mk (as.map (tr q)).toArray)) :
    ∃ (T' : State) (L : List Loc), Stand p l e R s m args below meth c T' (locs ++ L) (cells + N) (slots + 100 * N) ∧ HR q D s H0 r.2.1 T'.heap ∧ (∀ x ∈ L, q.2.2 ≤ x.base) ∧ (r.2.2 = false → L = []) ∧
      (∀ v, r.1 = .inl v → Steps p.tables e below (doInvoke e (T.setTop g) [] mk (as.map (tr q)).toArray).1 (T'.setTop { g with pc := g.pc + len, stack := (v.map (tr q)).toList ++ g.stack })) ∧
      (∀ k, r.1 = .inr k → Steps p.tables e below (doInvoke e (T.setTop g) [] mk (as.map (tr q)).toArray).1 ((T'.setTop g).pushFrame (.throwing (ad q k)))) := call_raw X hts (show MXr l q D H0 y rm (as.map (tr q)).toArray mem r N K from hM) hN hN2 hn hmY hcY hlY hini hg hsize hdg hframes hlocals hcells hslots hH hK hKK
end CALL
