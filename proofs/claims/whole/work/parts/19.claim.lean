/-! The claim, out of PURE. (The last rows began as kit/laws/SKELETON's.) -/
def R_law : String := "PlanJudgeLaw"
def AL_ : String := "java/util/ArrayList"
def EM_ : String := "DEFAULTCAPACITY_EMPTY_ELEMENTDATA"
def OD_ : String := "[Ljava/lang/Object;"
def lw_P (b : Addr) (xs : List Int32) (args : Array Value) (s : State) : Prop := args = #[.ref b] ∧ s.IntsAt b xs ∧ xs.length ≤ 2560 ∧ (Jvm.Cond.and given_1 narrow_1).before args s = true
def lw_Q (_ : Array Value) (s : State) (o : Outcome) (t : State) : Prop := o = .returned (some (.int 1)) ∧ Framed s o t [] 601024 7293034
def lw_Z (below : List Frame) (a : Array Value) (s : State) : State → Prop := fun t => ∃ o, t.status = .running ∧ Ended t below o ∧ lw_Q a s o t
/-- the list's empty array at the start -/
theorem em_at {args : Array Value} {s : State} (hg : (Jvm.Cond.and given_1 narrow_1).before args s = true) : ∃ (a : Nat) (cell : Cell), (Term.static AL_ EM_ OD_).eval args s none [] s = some (.ref a) ∧ s.heap[a]? = some cell ∧ s.isArrayOf cell (.object "java/lang/Object") ∧ cell.vm ≠ .unknown ∧ cell.slots = #[] ∧ s.vm.findClass OD_ = some cell.cls := by
  have hs := flat_of_before _ hg
  have h1 : (Cond.arrayOf (.static AL_ EM_ OD_) (.object "java/lang/Object")).before args s = true := hs _ (by decide +kernel)
  have h2 : (Cond.exactly (.static AL_ EM_ OD_) OD_).before args s = true := hs _ (by decide +kernel)
  have h3 : (Cond.eq (.length (.static AL_ EM_ OD_)) (.int 0)).before args s = true := hs _ (by decide +kernel)
  simp only [Cond.before, Cond.holds, Cond.value] at h1
  split at h1
  · simp at h1
  · cases hv : (Term.static AL_ EM_ OD_).eval args s none [] s with
    | none => rw [hv] at h1; simp at h1
    | some v =>
      rw [hv] at h1
      cases v with
      | ref a =>
        cases hc : s.heap[a]? with
        | none => simp [hc] at h1
        | some cell =>
          cases hk : s.vm.classes[cell.cls]? with
          | none => simp [hc, hk] at h1
          | some k =>
            simp [hc, hk] at h1
            obtain ⟨⟨a1, a2⟩, a3⟩ := h1
            cases hkind : k.kind with
            | array comp ty =>
              rw [hkind] at a3
              have e1 : ty = .object "java/lang/Object" := by simpa using a3
              have hst : ∀ z, cell.vm ≠ .statics z := fun z hz => by rw [hz] at a1; cases a1
              refine ⟨a, cell, rfl, hc, ⟨hst, k, hk, comp, by rw [hkind, e1]⟩, a2, ?_, ?_⟩
              · have harr : s.arrayAt? a = some cell := by
                  simp [State.arrayAt?, hc, hk, a1, a2, hkind]
                have e5 : (Term.length (.static AL_ EM_ OD_)).eval args s none [] s = (do
                    let .ref a ← (Term.static AL_ EM_ OD_).eval args s none [] s | none
                    let n := (← s.arrayAt? a).slots.size
                    if n < 2 ^ 31 then pure (.int n.toInt32) else none) := rfl
                rw [hv] at e5
                simp [harr] at e5
                have e6 : (Term.int 0).eval args s none [] s = some (.int 0) := rfl
                simp only [Cond.before, Cond.holds, Cond.value, e5, e6] at h3
                by_cases hlt : cell.slots.size < 2147483648
                · rw [if_pos hlt] at h3
                  have h4 : cell.slots.size.toInt32 = 0 := by simpa using h3
                  have h5 : cell.slots.size = 0 := by
                    have h6 : Int32.ofNat cell.slots.size = Int32.ofNat 0 := h4
                    have h7 : cell.slots.size ≤ 0 := (Int32.ofNat_le_ofNat (show cell.slots.size < 2 ^ 31 by omega) (show 0 < 2 ^ 31 by decide)).mp (by rw [h6]; exact Int32.le_refl _)
                    omega
                  exact Array.eq_empty_of_size_eq_zero h5
                · rw [if_neg hlt] at h3
                  simp at h3
              · simp only [Cond.before, Cond.holds, Cond.value, hv] at h2
                cases hf : s.vm.findClass OD_ with
                | none => rw [hf] at h2; simp at h2
                | some c2 =>
                  rw [hf] at h2
                  cases hk2 : s.vm.classes[c2]? with
                  | none => simp [hc, hk2] at h2
                  | some k2 =>
                    simp [hc, hk2] at h2
                    rw [h2.1.2]
            | _ => rw [hkind] at a3; simp at a3
      | _ => simp at h1
theorem start_kx {s : State} {args : Array Value} {b em : Nat} (hts : ∀ w ∈ lw_tbl, w.before args s = true) (hg : (Jvm.Cond.and given_1 narrow_1).before args s = true) (hem : (Term.static AL_ EM_ OD_).eval args s none [] s = some (.ref em)) : KX (b, em, s.heap.size) s.heap s := by
  have hs := flat_of_before _ hg
  have w1 : (Cond.laysStatic Bundle.tN "UNASSIGNED_STACK" Bundle.steD).before args s = true := hts _ (by decide +kernel)
  have w2 : (Cond.laysStatic Bundle.tN "SUPPRESSED_SENTINEL" Bundle.listD).before args s = true := hts _ (by decide +kernel)
  have w3 : (Cond.isRef (.static Bundle.tN "UNASSIGNED_STACK" Bundle.steD)).before args s = true := hs _ (by decide +kernel)
  have w4 : (Cond.isRef (.static Bundle.tN "SUPPRESSED_SENTINEL" Bundle.listD)).before args s = true := hs _ (by decide +kernel)
  have w5 : (Cond.laysStatic AL_ EM_ OD_).before args s = true := hts _ (by decide +kernel)
  have w6 : (Cond.initialized AL_).before args s = true := hts _ (by decide +kernel)
  have low : ∀ {C n d : String}, (Cond.laysStatic C n d).before args s = true → ∀ c k i f a, s.fieldFound? C n d = some (c, k, i, f) → k.statics = some a → a < s.heap.size := by
    intro C n d h c k i f a hf ha
    obtain ⟨c', k', i', f', a', cell, -, h2, -, h4, h5, -⟩ := Cond.laysStatic_spec h
    cases Option.some.inj (hf.symm.trans h2)
    cases Option.some.inj (ha.symm.trans h4)
    exact (Array.getElem?_eq_some_iff.mp h5).1
  refine ⟨fun _ _ => rfl, ?_, ?_, ?_, va_Zof w5 w6 hem (fun a ha hz => by dsimp only at hz; omega), va_Mi.of (args := args) (hs _ (by decide +kernel))⟩
  · intro w hw
    simp only [stW, List.mem_cons, List.not_mem_nil, or_false] at hw
    rcases hw with rfl | rfl | rfl | rfl
    · exact w1
    · exact w2
    · exact w3
    · exact w4
  · intro t ht
    simp only [stN, List.mem_cons, List.not_mem_nil, or_false] at ht
    rcases ht with rfl | rfl
    · exact low w1
    · exact low w2
  · intro t ht
    simp only [exN, List.mem_cons, List.not_mem_nil, or_false] at ht
    rcases ht with rfl | rfl | rfl | rfl | rfl | rfl
    all_goals exact va_Nc.of (hs _ (by decide +kernel))
theorem whole_start {p : Program} {e : Env} {s : State} {m : MethodId} {below : List Frame} {meth : Method} {c : Code} (l : Launch) (hfl : l.flags = flags0) (hpure : PURE) {b L : Nat} {xs : Nat → Int32} (hL : L ≤ 2560)
    (hx : p.tables.exec = Jvm.exec) (hb : c.code = code) (hr : meth.sig.returnType = ret) (hml : c.maxLocals = 8) (hown : s.vm.findClass R_law = some m.cls) (hts : ∀ w ∈ lw_tbl, w.before #[Value.ref b] s = true) (hX : va_X b L xs s s.heap) (hlk : meth.locks = false) (hg : (Jvm.Cond.and given_1 narrow_1).before #[Value.ref b] s = true) (hexc : c.exceptionTable.isEmpty = true) (hadm : l.admits e) :
    W p l e room_1 s m #[Value.ref b] below meth c s.heap [] 0 0 (lw_Z below #[Value.ref b] s) (entryFrame m ([Value.ref b] : List Value).toArray 8) := by
  obtain ⟨em, ce, hem, e1, e2, e3, e4, e5⟩ := em_at hg
  obtain ⟨scr, x1, x2, x3, x4, x5⟩ := hX
  have ht2 : ∀ w ∈ lw_t2, w.before #[Value.ref b] s = true := fun w hw => hts w (List.mem_filter.mp hw).1
  obtain ⟨D, hK⟩ := known ht2
  obtain ⟨f, d, mem, w, hd, hlen, hrun⟩ := hpure L xs hL
  have hbl : b < s.heap.size := (Array.getElem?_eq_some_iff.mp x1).1
  have hel : em < s.heap.size := (Array.getElem?_eq_some_iff.mp e1).1
  have hne : b ≠ em := by
    intro h
    subst h
    cases Option.some.inj (x1.symm.trans e1)
    obtain ⟨k1, hk1, c1, hc1⟩ := x2.2
    obtain ⟨k2, hk2, c2, hc2⟩ := e2.2
    cases Option.some.inj (hk1.symm.trans hk2)
    rw [hc1] at hc2
    cases hc2
  have hslots : scr.slots = (((List.range L).map (fun j => Value.int (xs j))).map (tr (b, em, s.heap.size))).toArray := by
    apply Array.ext_getElem?
    intro k
    by_cases hk : k < L
    · rw [x5 k hk]
      simp [hk, tr]
    · rw [Array.getElem?_eq_none (by omega), Array.getElem?_eq_none (by simp; omega)]
  have hHR : HR (b, em, s.heap.size) D s s.heap (mem0 L xs) s.heap := by
    refine ⟨by simp [mem0], by simp [mem0], ⟨hbl, hel, hne⟩, fun _ _ => rfl, fun k cc hk => ?_⟩
    have hk2 : k < 2 := (List.getElem?_eq_some_iff.mp hk).1
    have : k = 0 ∨ k = 1 := by omega
    rcases this with rfl | rfl
    · cases hk
      exact ⟨scr, x1, x2, x3, (fun C hC => by cases hC), hslots⟩
    · cases hk
      obtain ⟨k2, hk2, c2, hc2⟩ := e2.2
      refine ⟨ce, e1, e2, e3, fun C hC => ?_, by rw [e4]; rfl⟩
      cases hC
      obtain ⟨comp, cA, kA, h1, h2, h3, h4, h5⟩ := Cond.arrayOver_spec (ht2 _ (show Cond.arrayOver (.object "java/lang/Object") ∈ lw_t2 from lw_at 885 (by decide +kernel) rfl))
      have h6 : ce.cls = cA := Option.some.inj (e5.symm.trans h5)
      exact ⟨kA, comp, by rw [h6]; exact h3, h4, h1, by rw [h6]; exact h5⟩
  have hcx : Cx p e s m #[Value.ref b] meth c D m_Law := ⟨hx, hb, hml, hr, hown, ht2, hK, hlk, (fun h => by cases h), rfl⟩
  have hcy : Cy e s c (b, em, s.heap.size) s.heap m_Law := ⟨by
    have : c.exceptionTable = #[] := by simpa using hexc
    rw [this]; rfl, no_traces hfl e hadm, start_kx hts hg hem⟩
  have hrm : RMs room_1 d (mem.length - 2) := by
    refine ⟨?_, ?_, ?_, ?_⟩
    · show d + 8 ≤ 2048; omega
    · show 64 * d + 200 ≤ 84000; omega
    · show mem.length - 2 ≤ 601024; omega
    · show 100 * (mem.length - 2) ≤ 7293034; omega
  have k := run_sound (l := l) (no_traces hfl) f d m_Law 2 false 0 _ [] _ _ hrun (below := below) hcx hcy (by simp [mem0]) hrm
  rw [lg_entry_eq]
  have hls := lv_entry ([Value.ref b] : List Value) (n := 8) (Nat.le_of_ble_eq_true rfl)
  have kk := k s.heap [] _ hHR (fun x h => by cases h) (fun _ => rfl) hls
  refine W.mono (fun t ht => ?_) kk
  obtain ⟨o, t1, t2, t3, t4, t5, LL, t6, t7, t8⟩ := ht
  have t3' : o = .returned (some (.int 1)) := t3
  refine ⟨o, t1, t2, t3', ⟨_, t3'⟩, t5, forget_new t6 t7 (by show mem.length - 2 ≤ _; omega) (by show 100 * (mem.length - 2) ≤ _; omega)⟩
set_option maxHeartbeats 4000000 in
theorem lw_walk (l : Launch) (hfl : l.flags = flags0) (hpure : PURE) (b : Addr) (xs : List Int32) : MetFree l x (headSpec (Jvm.Cond.code x code maxLocals ret :: tables_1) room_1) (lw_P b xs) (fun _ _ _ _ _ => True) lw_Q := by
  refine MetFree.of_bodyS (code := code) (maxLocals := maxLocals) (ret := ret) (by decide) ?_ ?_
  · intro args s m h hn
    obtain ⟨meth, c, h1, h2, h3, h4, h5, h6, -, -⟩ := Cond.code_spec hn (atoms_spec (ws := Jvm.Cond.code x code maxLocals ret :: tables_1) h _ List.mem_cons_self)
    exact ⟨meth, c, h1, h2, h3, h4, h5, h6⟩
  · intro p e s m args below meth c s₁ B hml0 hP _
    obtain ⟨rfl, hx, hbd, hgv⟩ := hP
    obtain ⟨scr, harrAt, hlist, hof, hsmall⟩ := hx
    obtain ⟨hcb, hkn, -, -⟩ := State.arrayAt?_spec harrAt
    have hown : s.vm.findClass R_law = some m.cls := findClass_of_methodNamed B.named
    have hts0 : ∀ c ∈ (Jvm.Cond.code x code maxLocals ret :: tables_1), c.before #[Value.ref b] s = true := atoms_spec (ws := Jvm.Cond.code x code maxLocals ret :: tables_1) B.pre
    have hts : ∀ w ∈ lw_tbl, w.before #[Value.ref b] s = true := k2_hts_sels lw_privs (fun w hw => hts0 w (List.mem_cons_of_mem _ hw)) lw_privs_ok
    have hml : c.maxLocals = 8 := B.maxLocals_eq (hts0 _ List.mem_cons_self)
    have X₀ : Stand p l e room_1 s m #[Value.ref b] below meth c s₁ [] 0 0 := Stand.of_body B
    have hh0 : s₁.heap = s.heap := by rw [B.state]; rfl
    have hsz : scr.slots.size = xs.length := by rw [← Array.length_toList, hlist, List.length_map]
    have hval : ∀ j : Nat, j < xs.length → scr.slots[j]? = some (.int (xs.getD j 0)) := fun j hj => by
      rw [← Array.getElem?_toList, hlist]
      simp [hj]
    have hX : va_X b xs.length (fun j => xs.getD j 0) s s.heap := ⟨scr, hcb, hof, hkn, hsz, hval⟩
    have K : W p l e room_1 s m #[Value.ref b] below meth c s₁.heap [] 0 0 (lw_Z below #[Value.ref b] s) (entryFrame m ([Value.ref b] : List Value).toArray 8) := by
      rw [hh0]
      exact whole_start l hfl hpure hbd B.exec B.bytes B.returns hml hown hts hX B.notSynchronized hgv (B.noHandlers (hts0 _ List.mem_cons_self)) B.admits
    obtain ⟨t, a1, o, b1, b2, b3⟩ := K s₁ rfl X₀
    exact ⟨t, o, a1, b1, b2, b3⟩
theorem lw_pre_spec {args : Array Value} {s : State} (h : (Jvm.Cond.and given_1 narrow_1).before args s = true) (hr : rest_1_c.before args s = true) : ∃ (b : Addr) (xs : List Int32), lw_P b xs args s := by
  have hs := flat_of_before _ h
  have hq := flat_of_before _ hr
  have hc : (Cond.count 1).before args s = true := hs _ (by decide +kernel)
  have harr : (Cond.arrayOf (.arg 0) .int).before args s = true := hs _ (by decide +kernel)
  have hle : (Cond.le (.length (.arg 0)) (.int 2560)).before args s = true := hs _ (by decide +kernel)
  have hlen : (Cond.isInt (.length (.arg 0))).before args s = true := hq _ (by decide +kernel)
  have hall : (Cond.all (.arg 0) (.isInt (.elem (.arg 0) (.index 0)))).before args s = true := hq _ (by decide +kernel)
  obtain ⟨b, xs, hb, hx⟩ := State.ints_of_pre rfl harr hlen hall
  have hsm : xs.length < 2 ^ 31 := hx.choose_spec.2.2.2
  have hev : (Term.length (.arg 0)).eval args s none [] s = some (.int xs.length.toInt32) := hx.length_eval hb
  have hv := Cond.le_ints hev (show (Term.int 2560).eval args s none [] s = some (.int 2560) from rfl)
  have hd : xs.length.toInt32 ≤ 2560 := by
    simpa [Cond.before, Cond.holds, hv] using hle
  have hN : xs.length ≤ 2560 := (Int32.ofNat_le_ofNat hsm (by decide)).mp (show Int32.ofNat xs.length ≤ Int32.ofNat 2560 from hd)
  exact ⟨b, xs, Cond.one_arg hc (show args[0]? = some (.ref b) from hb), hx, hN, h⟩
theorem lw_comes (l : Launch) (hfl : l.flags = flags0) (hpure : PURE) : Comes l x (Jvm.Cond.code x code maxLocals ret :: tables_1) room_1 (fun tb e args s => Calls_1 tb e args s ∧ rest_1 tb e args s ∧ Pre_1 tb e args s)
    (fun _ _ args s o t => lw_Q args s o t) := by
  intro p e ha hc hk s m args below hf hfit hheap happ hpre
  obtain ⟨b, xs, hP⟩ := lw_pre_spec hpre.2.2 hpre.2.1
  obtain ⟨k, o, h1, h2, h3, hQ⟩ := lw_walk l hfl hpure b xs p e ha hc hk s m args below hf ((Spec.applies_iff_loose hf).mp happ).1 hP trivial
  exact ⟨k, o, h1, h2, h3, hQ⟩
theorem lw_frame {s t : State} {o : Outcome} {args : Array Value} (h : Framed s o t [] 601024 7293034) :
    Framed s o t (fieldLocs frame_1_writes args s ++ arrayLocs frame_1_arrays args s ++ staticLocs frame_1_statics s) 601024 7293034 := h
theorem lw_limb (hpure : PURE) (L : Cond) (hL : ∀ (args : Array Value) (s t : State), L.after args s (.returned (some (.int 1))) t = true) :
    ArmFor flags0 classFile x code maxLocals ret World_1 tables_1 room_1 Calls_1 rest_1 Pre_1
      (fun tb e a s o t => postC L tb e a s o t ∧ Framed s o t (fieldLocs frame_1_writes a s ++ arrayLocs frame_1_arrays a s ++ staticLocs frame_1_statics s) 601024 7293034) := by
  intro l hfl _ _ p e ha hc hk s m args below hf hfit hheap happ hpre
  obtain ⟨k, o, h1, h2, h3, rfl, hF⟩ := lw_comes l hfl hpure p e ha hc hk s m args below hf hfit hheap happ hpre
  exact ⟨k, _, h1, h2, h3, hL args s _, lw_frame hF⟩
theorem claim_of (hpure : PURE) : Claimed_1_1 ∧ Claimed_1_2 := ⟨lw_limb hpure limb_1_1 (fun args s t => by simp [limb_1_1, Cond.after, Cond.holds, Cond.value]), lw_limb hpure limb_1_2 (fun args s t => Cond.after_iff.mpr (by
  first | (rw [show limb_1_2 = Cond.eq .result (.int 1) from rfl, Cond.eq_ints (x := 1) (y := 1) rfl rfl]; simp; done) | (simp [limb_1_2, Cond.value, Term.eval]; done)))⟩
