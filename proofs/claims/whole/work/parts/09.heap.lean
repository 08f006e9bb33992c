/-! Reads and writes of the heap. -/
section HEAP
variable {p : Program} {l : Launch} {e : Env} {R : Room} {s : State} {m : MethodId} {args : Array Value} {below : List Frame} {meth : Method} {c : Code}
variable {q : AQ} {D : va_G} {H0 : Heap} {M : MI} {n0 : Nat} {Q : State → Prop} {w : Bool} {pc : Nat} {L : AL} {st : List Value} {mem : AM} {pc' : Nat} {L' : AL} {st' : List Value} {mem' : AM}
theorem aLd_eq {ty : FieldType} (h1 : aLd ty pc L st mem = some (.inl (pc', L', st', mem'))) : ∃ (j : Int32) (a : Nat) (r : List Value) (vs : List Value) (v : Value), st = .int j :: .ref a :: r ∧ mem[a]? = some (.inl (ty, vs)) ∧ ¬ j < 0 ∧ vs[j.toNatClampNeg]? = some v ∧ pc' = pc + 1 ∧ L' = L ∧ st' = v :: r ∧ mem' = mem := by
  unfold aLd at h1
  split at h1
  · rename_i j a r
    split at h1
    · rename_i t vs hm
      split at h1
      · rename_i ht
        split at h1
        · cases h1
        · rename_i hj
          split at h1
          · rename_i v hv
            cases h1
            subst ht
            exact ⟨j, a, r, vs, v, rfl, hm, hj, hv, rfl, rfl, rfl, rfl⟩
          · cases h1
      · cases h1
    · cases h1
  · cases h1
theorem aSt_eq {ty : FieldType} (h1 : aSt ty pc L st mem = some (.inl (pc', L', st', mem'))) : ∃ (v : Value) (j : Int32) (a : Nat) (r : List Value) (vs : List Value), st = v :: .int j :: .ref a :: r ∧ mem[a]? = some (.inl (ty, vs)) ∧ 2 ≤ a ∧ ¬ j < 0 ∧ j.toNatClampNeg < vs.length ∧ pc' = pc + 1 ∧ L' = L ∧ st' = r ∧ mem' = mem.set a (.inl (ty, vs.set j.toNatClampNeg (narrow ty v))) := by
  unfold aSt at h1
  split at h1
  · rename_i v j a r
    split at h1
    · rename_i t vs hm
      split at h1
      · rename_i ht
        split at h1
        · cases h1
        · rename_i hj
          split at h1
          · rename_i hlt
            cases h1
            obtain ⟨rfl, ha⟩ := ht
            exact ⟨v, j, a, _, vs, rfl, hm, ha, hj, hlt, rfl, rfl, rfl, rfl⟩
          · cases h1
      · cases h1
    · cases h1
  · cases h1
theorem arr_get {q : AQ} {cell : Cell} {vs : List Value} {j : Int32} {v : Value} (hs : cell.slots = (vs.map (tr q)).toArray) (hj : ¬ j < 0) (hv : vs[j.toNatClampNeg]? = some v) : ¬ (j < 0 ∨ cell.slots.size ≤ j.toNatClampNeg) ∧ cell.slots[j.toNatClampNeg]? = some (tr q v) := by
  have hl := (List.getElem?_eq_some_iff.mp hv).1
  refine ⟨?_, ?_⟩
  · rintro (h | h)
    · exact hj h
    · rw [hs] at h
      simp at h
      omega
  · rw [hs]
    simp [hv]
theorem tr_narrow (q : AQ) {ty : FieldType} {v : Value} (h : (∃ x, v = .int x) ∨ ∃ x, v = .long x) : tr q (narrow ty v) = narrow ty v := by
  rcases h with ⟨x, rfl⟩ | ⟨x, rfl⟩
  · cases ty <;> rfl
  · cases ty <;> rfl
/-- a store into an array, for the kit's own store rows -/
theorem gg_ast {ty : FieldType} {i : Instr} (hwr : wrs i = true) (hp : ty = .int ∨ ty = .long ∨ ty = .boolean) (h1 : aSt ty pc L st mem = some (.inl (pc', L', st', mem'))) (hi : (∃ x r, st = .int x :: r) ∨ ∃ x r, st = .long x :: r)
    (k : GG p l e R s m args below meth c q D H0 M n0 Q (w || wrs i) pc' L' st' mem')
    (row : ∀ {H : Heap} {locs : List Loc} {ls : Array Slot} {v : Value} {j : Int32} {a : Addr} {cell : Cell} {rest : List Value}, H[a]? = some cell → s.isArrayOf cell ty → cell.vm ≠ .unknown → ¬ (j < 0 ∨ cell.slots.size ≤ j.toNatClampNeg) → st = v :: st.tail → (∀ H' : Heap, H'[a]? = some (cell.setSlot j.toNatClampNeg (narrow ty v)) → H'.size = H.size → (∀ q, q ≠ a → H'[q]? = H[q]?) → W p l e R s m args below meth c H' (locs ++ [⟨a, j.toNatClampNeg⟩]) (mem.length - n0) (100 * (mem.length - n0)) Q (F0 m (pc + 1) ls rest)) → W p l e R s m args below meth c H locs (mem.length - n0) (100 * (mem.length - n0)) Q (F0 m pc ls (v :: .int j :: .ref a :: rest))) :
    GG p l e R s m args below meth c q D H0 M n0 Q w pc L st mem := by
  intro H locs ls hH hl hw hls
  obtain ⟨v, j, a, r, vs, rfl, hm, ha, hj, hlt, rfl, rfl, rfl, rfl⟩ := aSt_eq h1
  have hv : (∃ x, v = .int x) ∨ ∃ x, v = .long x := by
    rcases hi with ⟨x, r, e⟩ | ⟨x, r, e⟩
    · cases e; exact Or.inl ⟨x, rfl⟩
    · cases e; exact Or.inr ⟨x, rfl⟩
  have htv : tr q v = v := by
    rcases hv with ⟨x, rfl⟩ | ⟨x, rfl⟩ <;> rfl
  obtain ⟨cell, c1, c2, c3, c4, c5⟩ := hH.2.2.2.2 a _ hm
  have hsz : cell.slots.size = vs.length := by rw [c5]; simp
  have goal := row (H := H) (locs := locs) (ls := ls) (v := v) (j := j) (a := ad q a) (cell := cell) (rest := st'.map (tr q)) c1 c2 c3 (by rintro (h | h); exact hj h; omega) rfl (fun H' e1 e2 e3 => ?_)
  · show W p l e R s m args below meth c H locs (mem.length - n0) (100 * (mem.length - n0)) Q (F0 m pc ls (tr q v :: Value.int j :: Value.ref (ad q a) :: st'.map (tr q)))
    rw [htv]
    exact goal
  · have hH' : HR q D s H0 (mem.set a (.inl (ty, vs.set j.toNatClampNeg (narrow ty v)))) H' := by
      refine hH.set hm ha e2 e3 ⟨_, e1, ?_, ?_, ?_, ?_⟩
      · exact c2
      · exact c3
      · intro C hC
        rcases hp with h | h | h <;> rw [h] at hC <;> cases hC
      · show cell.slots.setIfInBounds j.toNatClampNeg (narrow ty v) = _
        rw [c5, List.map_set, tr_narrow q hv]
        simp
    have := k H' (locs ++ [⟨ad q a, j.toNatClampNeg⟩]) ls hH' (fun x hx => by
      rcases List.mem_append.mp hx with h | h
      · exact hl x h
      · rw [List.mem_singleton.mp h]
        show q.2.2 ≤ ad q a
        rw [ad_hi q ha]
        omega) (fun h => by rw [hwr] at h; simp at h) hls
    simpa using this
theorem gg_getf {i : Nat} (hc : Cx p e s m args meth c D M) (hd : decode (mB M) pc = .ok (.getfield i, 3)) {a : Nat} {r : List Value} {ci j lk : Nat} (hr : rF (mH M) i = some (ci, j, lk)) {fs : List Value} (hm : mem[a]? = some (.inr (ci, fs))) {v : Value} (hv : fs[j]? = some v)
    (k : GG p l e R s m args below meth c q D H0 M n0 Q (w || false) (pc + 3) L (v :: r) mem) : GG p l e R s m args below meth c q D H0 M n0 Q w pc L (.ref a :: r) mem := by
  intro H locs ls hH hl hw hls
  have kk := k H locs ls hH hl (w0 hw) hls
  obtain ⟨rr, c1, c2, c3⟩ := hH.2.2.2.2 a _ hm
  obtain ⟨own, C, ref, host, T, N, o1, o2, o3, o4, o5⟩ := rF_ok hr
  have hcl : (C, T, N) = rr := Option.some.inj (o2.symm.trans c1)
  subst hcl
  obtain ⟨n, ty, -, k0, k1, -⟩ := cls_all o2
  have hown : s.vm.findClass own = some m.cls := by
    have := o1.symm.trans hc.2.2.2.2.2.2.2.2.2
    rw [Option.some.inj this]
    exact hc.2.2.2.2.1
  have hts := hc.2.2.2.2.2.1
  have hP : va_P D CLs [(ad q a, .inr (ci, fs.map (tr q)))] H := by
    intro k' x hx
    have hz : k' < 1 := (List.getElem?_eq_some_iff.mp hx).1
    rw [show k' = 0 by omega] at hx
    cases hx
    exact ⟨_, c1, c3⟩
  have hvv : (fs.map (tr q))[j]? = some (tr q v) := by simp [hv]
  have hsame : ∀ x, s.fieldFound? (T j).1 (T j).2.1 (T j).2.2.1 = some x → s.fieldFound? ref (T j).2.1 (T j).2.2.1 = some x := by
    intro x hx
    rcases o4 with h | h
    · rw [h]; exact hx
    · exact u_same (hts _ h) x hx
  rcases o5 with ⟨-, h, -⟩ | ⟨-, h, -⟩ | ⟨-, h, -⟩ | ⟨-, h, -⟩
  · exact va_get hc.1 hc.2.1 hts k1 hown hc.2.2.2.2.2.2.1 hP 0 rfl o2 j o3 (hts _ h) hsame hvv hd kk
  · exact va_get hc.1 hc.2.1 hts k1 hown hc.2.2.2.2.2.2.1 hP 0 rfl o2 j o3 (hts _ h) hsame hvv hd kk
  · exact va_getN hc.1 hc.2.1 hts k1 hown hc.2.2.2.2.2.2.1 hP 0 rfl o2 j o3 (hts _ h) hsame hvv hd kk
  · exact va_getN hc.1 hc.2.1 hts k1 hown hc.2.2.2.2.2.2.1 hP 0 rfl o2 j o3 (hts _ h) hsame hvv hd kk
theorem okT_fits {q : AQ} {ty : FieldType} {v : Value} (h : okT ty v = true) : narrow ty (tr q v) = tr q v ∧ fits ty (tr q v) = true := by
  cases ty <;> cases v <;> simp [okT] at h <;> first
    | (constructor <;> rfl)
    | (rcases h with rfl | rfl <;> constructor <;> rfl)
theorem gg_putf {i : Nat} (hc : Cx p e s m args meth c D M) (hd : decode (mB M) pc = .ok (.putfield i, 3)) {a : Nat} {r : List Value} {ci j lk : Nat} (hr : rF (mH M) i = some (ci, j, lk)) {fs : List Value} (hm : mem[a]? = some (.inr (ci, fs))) {v : Value} (ha : 2 ≤ a) (hj : j < fs.length) (hk : lk = 0 ∨ lk = 2 ∨ (lk = 1 ∧ mI M = true)) (ht : (tys[ci]?.map (fun t => okT (t j) v)) = some true)
    (k : GG p l e R s m args below meth c q D H0 M n0 Q (w || true) (pc + 3) L r (mem.set a (.inr (ci, fs.set j v)))) : GG p l e R s m args below meth c q D H0 M n0 Q w pc L (v :: .ref a :: r) mem := by
  intro H locs ls hH hl hw hls
  obtain ⟨rr, c1, c2, cell, q1, q2, q3, q4⟩ := hH.2.2.2.2 a _ hm
  obtain ⟨own, C, ref, host, T, N, o1, o2, o3, o4, o5⟩ := rF_ok hr
  have hcl : (C, T, N) = rr := Option.some.inj (o2.symm.trans c1)
  subst hcl
  obtain ⟨n, ty, e0, k0, hin, hty, hnm, -⟩ := cls_all o2
  have hok : okT (ty j) v = true := by
    rw [e0] at ht
    simpa using ht
  obtain ⟨hn, hfit⟩ := okT_fits (q := q) hok
  have hown : s.vm.findClass own = some m.cls := by
    have := o1.symm.trans hc.2.2.2.2.2.2.2.2.2
    rw [Option.some.inj this]
    exact hc.2.2.2.2.1
  have hts := hc.2.2.2.2.2.1
  have hK := hc.2.2.2.2.2.2.1
  have hsame : ∀ x, s.fieldFound? (T j).1 (T j).2.1 (T j).2.2.1 = some x → s.fieldFound? ref (T j).2.1 (T j).2.2.1 = some x := by
    intro x hx
    rcases o4 with h | h
    · rw [h]; exact hx
    · exact u_same (hts _ h) x hx
  have hap := va_apart (own := own) hts hin ty hty hnm hK o2
  obtain ⟨hS, hfc, kC, hkC, hkind⟩ := hK.1 ci _ o2
  obtain ⟨cf, kf, fi, f, hi, hsl⟩ := hS j o3
  have hst := (u_facts hfc hkC (u_lays hts hin o3) hi).1
  have hlay := hts _ (hin _ (u_in_lay o3))
  unfold u_lay at hlay
  have fin : ∀ H' : Heap, H'[ad q a]? = some (cell.setSlot (D.2 ci j) (tr q v)) → H'.size = H.size → (∀ x, x ≠ ad q a → H'[x]? = H[x]?) →
      W p l e R s m args below meth c H' (locs ++ [⟨ad q a, D.2 ci j⟩]) (mem.length - n0) (100 * (mem.length - n0)) Q (F0 m (pc + 3) ls (r.map (tr q))) := by
    intro H' e1 e2 e3
    have hH' : HR q D s H0 (mem.set a (.inr (ci, fs.set j v))) H' := by
      refine hH.set hm ha e2 e3 ⟨_, o2, by rw [List.length_set]; exact c2, ?_⟩
      refine t_OB.to (V := updV (vp_V (fs.map (tr q))) j (tr q v)) ⟨_, e1, q2, q3, t_set q4 hap o3 (tr q v)⟩ (fun x _ => ?_)
      rw [List.map_set]
      exact vp_updV_set (by simpa using hj) (tr q v) x
    have := k H' (locs ++ [⟨ad q a, D.2 ci j⟩]) ls hH' (fun x hx => by
      rcases List.mem_append.mp hx with h | h
      · exact hl x h
      · rw [List.mem_singleton.mp h]
        show q.2.2 ≤ ad q a
        rw [ad_hi q ha]
        omega) (fun h => by simp at h) hls
    simpa using this
  have hlt : f.slot < cell.slots.size := by rw [hsl]; exact k2_hasslot (q4 j o3)
  rcases o5 with ⟨-, h, hf⟩ | ⟨e1, h, hf, hdecl⟩ | ⟨-, h, hf⟩ | ⟨e1, h, hf⟩
  · rw [if_neg (by rw [hf]; decide)] at hlay
    have h6 := u_store hfc hkC hkind hlay hi (hty j o3) hn hfit
    refine W.putK hc.1 hc.2.1 (f := f) ⟨hown, hts _ h, ⟨_, _, _, hsame _ hi⟩, hst⟩ (by rw [q2]; exact h6) q1 q3 hlt rfl rfl hd fun H' e1 e2 e3 => ?_
    rw [hsl] at e1 ⊢
    exact fin H' e1 e2 e3
  · rw [if_pos hf] at hlay
    have hini : mI M = true := by
      dsimp only at e1
      rcases hk with h | h | h
      · omega
      · omega
      · exact h.2
    have hcf : m.cls = cf := by
      obtain ⟨_, _, c', _, _, _, -, -, hf', -, -, -, hown2, -⟩ := Cond.laysFinal_spec hlay
      have e1 : c' = cf := by have := hi.symm.trans hf'; simp at this; exact this.1.symm
      rw [hdecl] at hown2
      rw [← e1]; exact Option.some.inj (hown.symm.trans hown2)
    have h6 := u_fits hfc hkC hkind (Or.inr hlay) hi (hty j o3) hn hfit
    refine W.putFinK hc.1 hc.2.1 hown (hts _ h) (hsame _ hi) hst hcf (hc.2.2.2.2.2.2.2.2.1 hini) (by rw [q2]; exact h6) q1 q3 hlt rfl rfl hd fun H' e1 e2 e3 => ?_
    rw [hsl] at e1 ⊢
    exact fin H' e1 e2 e3
  · rw [if_neg (by rw [hf]; decide)] at hlay
    have h6 := u_store hfc hkC hkind hlay hi (hty j o3) hn hfit
    refine va_WputK hc.1 hc.2.1 (f := f) hown (hts _ h) (hsame _ hi) hst (by rw [q2]; exact h6) q1 q3 hlt rfl rfl hd fun H' e1 e2 e3 => ?_
    rw [hsl] at e1 ⊢
    exact fin H' e1 e2 e3
  · dsimp only at e1
    omega
theorem gg_newa {t : ArrayType} {ty : FieldType} (hty : ats t = some ty) (hc : Cx p e s m args meth c D M) (hd : decode (mB M) pc = .ok (.newarray t, 2)) {n : Int32} {r : List Value} (hn : ¬ (n < 0 ∨ 100 < n.toNatClampNeg)) (hn0 : n0 ≤ mem.length) (hroom : mem.length + 1 - n0 ≤ R.cells ∧ 100 * (mem.length + 1 - n0) ≤ R.slots)
    (k : GG p l e R s m args below meth c q D H0 M n0 Q (w || false) (pc + 2) L (.ref mem.length :: r) (mem ++ [.inl (ty, List.replicate n.toNatClampNeg (defaultValue ty))])) : GG p l e R s m args below meth c q D H0 M n0 Q w pc L (.int n :: r) mem := by
  intro H locs ls hH hl hw hls
  have hty2 : newarray.typeOf t = ty ∧ Cond.arrayClass ty ∈ lw_t2 ∧ componentBytes ty ≤ 8 ∧ (∀ C, ty ≠ .object C) ∧ tr q (defaultValue ty) = defaultValue ty := by
    cases t <;> simp [ats] at hty <;> subst hty
    · exact ⟨rfl, lw_at 389 (by decide +kernel) rfl, by decide, (fun C h => by cases h), rfl⟩
    · exact ⟨rfl, lw_at 218 (by decide +kernel) rfl, by decide, (fun C h => by cases h), rfl⟩
    · exact ⟨rfl, lw_at 122 (by decide +kernel) rfl, by decide, (fun C h => by cases h), rfl⟩
  obtain ⟨h1, h2, h3, h4, h5⟩ := hty2
  have hb : n.toNatClampNeg ≤ 100 := by
    have := fun z => hn (Or.inr z)
    omega
  have hs1 : mem.length - n0 + 1 ≤ R.cells := by omega
  have hs2 : 100 * (mem.length - n0) + n.toNatClampNeg ≤ R.slots := by omega
  subst h1
  refine W.newaK hc.1 hc.2.1 (hc.2.2.2.2.2.1 _ h2) rfl hd rfl (fun z => hn (Or.inl z)) rfl ?_ hs1 hs2 rfl (fun H' cA e1 e2 e3 e4 => ?_)
  · calc n.toNatClampNeg * componentBytes (newarray.typeOf t) ≤ 100 * 8 := Nat.mul_le_mul hb h3
      _ ≤ 536870912 := by decide
  · have hH' : HR q D s H0 (mem ++ [.inl (newarray.typeOf t, List.replicate n.toNatClampNeg (defaultValue (newarray.typeOf t)))]) H' := by
      refine hH.push e2 e3 ⟨_, by rw [← hH.size]; exact e1, e4 _ _, (fun z => by cases z), fun C hC => absurd hC (h4 C), ?_⟩
      rw [List.map_replicate, h5]
      simp only [arrV]
      apply Array.ext'
      simp
      rw [List.eq_replicate_iff]
      simp
    have := k H' locs ls hH' hl (w0 hw) hls
    refine W.widen (k := (mem ++ [.inl (newarray.typeOf t, List.replicate n.toNatClampNeg (defaultValue (newarray.typeOf t)))] : AM).length - n0) (n := 100 * ((mem ++ [.inl (newarray.typeOf t, List.replicate n.toNatClampNeg (defaultValue (newarray.typeOf t)))] : AM).length - n0)) (by simp; omega) (by simp; omega) ?_
    rw [hH.size]
    exact this
theorem gg_new {i ci : Nat} (hc : Cx p e s m args meth c D M) (hd : decode (mB M) pc = .ok (.new i, 3)) (hr : rC (mH M) i = some ci) {rr : vw_C} {t : Nat → FieldType} (hcl : CLs[ci]? = some rr) (htt : tys[ci]? = some t) {r : List Value} (hn0 : n0 ≤ mem.length) (hroom : mem.length + 1 - n0 ≤ R.cells ∧ 100 * (mem.length + 1 - n0) ≤ R.slots)
    (k : GG p l e R s m args below meth c q D H0 M n0 Q (w || false) (pc + 3) L (.ref mem.length :: r) (mem ++ [.inr (ci, (List.range rr.2.2).map (fun j => defaultValue (t j)))])) : GG p l e R s m args below meth c q D H0 M n0 Q w pc L r mem := by
  intro H locs ls hH hl hw hls
  obtain ⟨own, C, T, N, o1, o2, o3⟩ := rC_ok hr
  have he : (C, T, N) = rr := Option.some.inj (o2.symm.trans hcl)
  subst he
  obtain ⟨n, ty, e0, k0, hin, hty, hnm, hins, hini, hNn, hn⟩ := cls_all o2
  have e9 : t = ty := Option.some.inj (htt.symm.trans e0)
  subst e9
  have hown : s.vm.findClass own = some m.cls := by
    have := o1.symm.trans hc.2.2.2.2.2.2.2.2.2
    rw [Option.some.inj this]
    exact hc.2.2.2.2.1
  have hts := hc.2.2.2.2.2.1
  have hKn := hc.2.2.2.2.2.2.1.1 ci _ o2
  have hs1 : mem.length - n0 + 1 ≤ R.cells := by omega
  have hs2 : 100 * (mem.length - n0) + n ≤ R.slots := by omega
  refine W.newcK hc.1 hc.2.1 hown (hts _ o3) (hts _ hins) (hts _ hini) rfl hd hs1 hs2 hKn.2.1 rfl (fun H' kC hkC e1 e2 e3 => ?_)
  have hdv : ∀ x : FieldType, tr q (defaultValue x) = defaultValue x := by intro x; cases x <;> rfl
  have hH' : HR q D s H0 (mem ++ [.inr (ci, (List.range N).map (fun j => defaultValue (t j)))]) H' := by
    refine hH.push e2 e3 ⟨_, o2, by simp, ?_⟩
    rw [← hH.size]
    refine (u_born t hts hin hKn hkC e1 hty).to (fun j hj => ?_)
    simp [vp_V, hj, hdv]
  have := k H' locs ls hH' hl (w0 hw) hls
  refine W.widen (k := (mem ++ [.inr (ci, (List.range N).map (fun j => defaultValue (t j)))] : AM).length - n0) (n := 100 * ((mem ++ [.inr (ci, (List.range N).map (fun j => defaultValue (t j)))] : AM).length - n0)) (by simp; omega) (by simp; omega) ?_
  rw [hH.size]
  exact this
end HEAP
