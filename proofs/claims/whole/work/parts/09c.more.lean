/-! Further rows: a static, references compared, a cast, arrays of references, a copy of an array. -/
theorem sp_get : ∀ (xs : List Value) (i : Nat) (c : Cell) (k : Nat), (c.storePairs 0 (xs.zipIdx i)).slots[k]? = if i ≤ k ∧ k < i + xs.length ∧ k < c.slots.size then xs[k - i]? else c.slots[k]? := by
  intro xs
  induction xs with
  | nil =>
    intro i c k
    rw [if_neg (by simp only [List.length_nil]; omega)]
    rfl
  | cons x r ih =>
    intro i c k
    rw [List.zipIdx_cons]
    show ((c.setSlot (0 + i) x).storePairs 0 (r.zipIdx (i + 1))).slots[k]? = _
    rw [ih]
    have hs : (c.setSlot (0 + i) x).slots.size = c.slots.size := by simp [Cell.setSlot]
    rw [hs]
    by_cases hk : k = i
    · subst hk
      rw [if_neg (by omega)]
      by_cases hl : k < c.slots.size
      · rw [if_pos (by simp only [List.length_cons]; omega)]
        simp [Cell.setSlot, hl]
      · rw [if_neg (by omega)]
        rw [Array.getElem?_eq_none (by rw [hs]; omega), Array.getElem?_eq_none (by omega)]
    · by_cases hz : i + 1 ≤ k ∧ k < i + 1 + r.length ∧ k < c.slots.size
      · rw [if_pos hz, if_pos (by simp only [List.length_cons]; omega)]
        have : k - i = (k - (i + 1)) + 1 := by omega
        rw [this, List.getElem?_cons_succ]
      · rw [if_neg hz, if_neg (by simp only [List.length_cons]; omega)]
        simp only [Cell.setSlot, Nat.zero_add]
        rw [Array.getElem?_setIfInBounds_ne (fun h => hk h.symm)]
theorem copy_all {cs cd : Cell} {n : Nat} (h1 : cs.slots.size = n) (h2 : cd.slots.size = n) : (cd.storeRun 0 (cs.stretch 0 n)).slots = cs.slots := by
  apply Array.ext_getElem?
  intro k
  unfold Cell.storeRun
  rw [sp_get]
  have hl : (cs.stretch 0 n).length = n := by simp [Cell.stretch]
  by_cases hk : k < n
  · rw [if_pos (by omega)]
    simp [Cell.stretch, hk, h1]
  · rw [if_neg (by omega)]
    rw [Array.getElem?_eq_none (by omega), Array.getElem?_eq_none (by omega)]
section MORE
variable {p : Program} {l : Launch} {e : Env} {R : Room} {s : State} {m : MethodId} {args : Array Value} {below : List Frame} {meth : Method} {c : Code}
variable {q : AQ} {D : va_G} {H0 : Heap} {M : MI} {n0 : Nat} {Q : State → Prop} {w : Bool} {pc : Nat} {L : AL} {st : List Value} {mem : AM} {pc' : Nat} {L' : AL} {st' : List Value} {mem' : AM}
theorem gg_gets (hc : Cx p e s m args meth c D M) (hk : KX q H0 s) (hd : decode (mB M) pc = .ok (.getstatic 39, 3)) (hm : mH M = 6)
    (k : GG p l e R s m args below meth c q D H0 M n0 Q (w || false) (pc + 3) L (.ref 1 :: st) mem) : GG p l e R s m args below meth c q D H0 M n0 Q w pc L st mem := by
  intro H locs ls hH hl hw hls
  obtain ⟨cf, kf, fi, f, a, cell, h1, h2, h3, h4, h5, h6, h7, h8⟩ := hk.2.2.2.2.1
  have hown : s.vm.findClass "java/util/ArrayList" = some m.cls := by
    have e1 := hc.2.2.2.2.2.2.2.2.2
    rw [hm] at e1
    rw [Option.some.inj (show some "java/util/ArrayList" = some (mY M).cls from e1)]
    exact hc.2.2.2.2.1
  refine W.gets hc.1 hc.2.1 hown (hc.2.2.2.2.2.1 _ (lw_at 141 (by decide +kernel) rfl)) h1 h2 h3 h4 (by rw [hH.2.2.2.1 a (by omega)]; exact h5) (fun e => by rw [e] at h6; cases h6) h7 rfl hd ?_
  exact k H locs ls hH hl (w0 hw) hls
theorem gg_acmp {cd : ClassFile.ACond} {off : Int} (hc : Cx p e s m args meth c D M) (hd : decode (mB M) pc = .ok (.if_acmp cd off, 3)) {x y : Nat} {r : List Value} (h1 : jmp (acm cd x y) off pc L r mem = some (.inl (pc', L', st', mem')))
    (k : GG p l e R s m args below meth c q D H0 M n0 Q (w || false) pc' L' st' mem') : GG p l e R s m args below meth c q D H0 M n0 Q w pc L (.ref y :: .ref x :: r) mem := by
  intro H locs ls hH hl hw hls
  obtain ⟨rfl, rfl, rfl, t, ht, h2, h3⟩ := jmp_eq h1
  have kk := k H locs ls hH hl (w0 hw) hls
  have inj : ∀ {i j : Nat}, some (ad q i) = some (ad q j) → i = j := fun h => ad_inj hH.2.2.1 (Option.some.inj h)
  cases cd
  · refine lv_acmp_eq (rx := some (ad q x)) (ry := some (ad q y)) hc.1 hc.2.1 hd ht (fun h => ?_) (fun h => ?_)
    · rw [← h2 (by simp [acm, inj h])]; exact kk
    · rw [← h3 (by simp [acm]; exact fun z => h (by rw [z]))]; exact kk
  · refine lv_acmp_ne (rx := some (ad q x)) (ry := some (ad q y)) hc.1 hc.2.1 hd ht (fun h => ?_) (fun h => ?_)
    · rw [← h2 (by simp [acm]; exact fun z => h (by rw [z]))]; exact kk
    · rw [← h3 (by simp [acm, inj h])]; exact kk
theorem gg_cast {i a : Nat} {fs r : List Value} (hc : Cx p e s m args meth c D M) (hd : decode (mB M) pc = .ok (.checkcast i, 3)) (hr : rC (mH M) i = some 1) (hm : mem[a]? = some (.inr (1, fs)))
    (k : GG p l e R s m args below meth c q D H0 M n0 Q (w || false) (pc + 3) L (.ref a :: r) mem) : GG p l e R s m args below meth c q D H0 M n0 Q w pc L (.ref a :: r) mem := by
  intro H locs ls hH hl hw hls
  obtain ⟨rr, c1, c2, cell, q1, q2, q3, q4⟩ := hH.2.2.2.2 a _ hm
  obtain ⟨own, C, T, N, o1, o2, o3⟩ := rC_ok hr
  have he : (C, T, N) = rr := Option.some.inj (o2.symm.trans c1)
  subst he
  have hC : C = "PlanJudge$Action" := by cases o2; rfl
  subst hC
  have hown : s.vm.findClass own = some m.cls := by
    rw [Option.some.inj (o1.symm.trans hc.2.2.2.2.2.2.2.2.2)]
    exact hc.2.2.2.2.1
  have hts := hc.2.2.2.2.2.1
  refine va_castY hc.1 hc.2.1 hown (hts _ o3) (va_Nw.of rfl (hts _ (show Cond.castable "PlanJudge$Action" "PlanJudge$Action" ∈ lw_t2 from lw_at 1673 (by decide +kernel) rfl))) ⟨cell, q1, by rw [q3]; rfl, by rw [q2]; exact (hc.2.2.2.2.2.2.1.1 1 _ o2).2.1⟩ hd ?_
  exact k H locs ls hH hl (w0 hw) hls
theorem gg_anew {i : Nat} {C : String} (hc : Cx p e s m args meth c D M) (hd : decode (mB M) pc = .ok (.anewarray i, 3)) (hr : rA (mH M) i = some C) {n : Int32} {r : List Value} (hn : ¬ (n < 0 ∨ 100 < n.toNatClampNeg)) (hn0 : n0 ≤ mem.length) (hroom : mem.length + 1 - n0 ≤ R.cells ∧ 100 * (mem.length + 1 - n0) ≤ R.slots)
    (k : GG p l e R s m args below meth c q D H0 M n0 Q (w || false) (pc + 3) L (.ref mem.length :: r) (mem ++ [.inl (.object C, List.replicate n.toNatClampNeg .null)])) : GG p l e R s m args below meth c q D H0 M n0 Q w pc L (.int n :: r) mem := by
  intro H locs ls hH hl hw hls
  obtain ⟨own, o1, o2, o3⟩ := rA_ok hr
  have hown : s.vm.findClass own = some m.cls := by
    rw [Option.some.inj (o1.symm.trans hc.2.2.2.2.2.2.2.2.2)]
    exact hc.2.2.2.2.1
  have hts := hc.2.2.2.2.2.1
  have hb : n.toNatClampNeg ≤ 100 := by
    have := fun z => hn (Or.inr z)
    omega
  have hs1 : mem.length - n0 + 1 ≤ R.cells := by omega
  have hs2 : 100 * (mem.length - n0) + n.toNatClampNeg ≤ R.slots := by omega
  refine W.anew hc.1 hc.2.1 hown (hts _ o2) (hts _ o3) rfl hd rfl (fun z => hn (Or.inl z)) (by omega) hs1 hs2 (fun cA kA comp a1 a2 a3 a4 => ?_)
  have hH' : HR q D s H0 (mem ++ [.inl (.object C, List.replicate n.toNatClampNeg .null)]) (H.push { cls := cA, slots := Array.replicate n.toNatClampNeg .null, vm := .none }) := by
    refine hH.push (by simp) (fun x hx => by rw [Array.getElem?_push, if_neg (Nat.ne_of_lt hx)]) ⟨{ cls := cA, slots := Array.replicate n.toNatClampNeg .null, vm := .none }, by rw [← hH.size]; simp, ⟨(fun z h => by cases h), kA, a2, comp, a3⟩, (fun z => by cases z), ?_, ?_⟩
    · intro C' hC'
      cases hC'
      exact ⟨kA, comp, a2, a3, a4, a1⟩
    · rw [List.map_replicate]
      simp [tr]
  have := k _ locs ls hH' hl (w0 hw) hls
  refine W.widen (k := (mem ++ [.inl (.object C, List.replicate n.toNatClampNeg .null)] : AM).length - n0) (n := 100 * ((mem ++ [.inl (.object C, List.replicate n.toNatClampNeg .null)] : AM).length - n0)) (by simp; omega) (by simp; omega) ?_
  rw [hH.size]
  exact this
theorem gg_aast {v a ci : Nat} {j : Int32} {C : String} {vs fs r : List Value} (hc : Cx p e s m args meth c D M) (hd : decode (mB M) pc = .ok (.aastore, 1)) (hm : mem[a]? = some (.inl (.object C, vs))) (hv : mem[v]? = some (.inr (ci, fs))) (ha : 2 ≤ a) (hC : (CLs[ci]?.map (fun x => x.1)) = some C ∨ (C = "java/lang/Object" ∧ ci = 1)) (hj : ¬ j < 0) (hlt : j.toNatClampNeg < vs.length)
    (k : GG p l e R s m args below meth c q D H0 M n0 Q (w || true) (pc + 1) L r (mem.set a (.inl (.object C, vs.set j.toNatClampNeg (.ref v))))) : GG p l e R s m args below meth c q D H0 M n0 Q w pc L (.ref v :: .int j :: .ref a :: r) mem := by
  intro H locs ls hH hl hw hls
  obtain ⟨cell, c1, c2, c3, c4, c5⟩ := hH.2.2.2.2 a _ hm
  obtain ⟨rr, d1, d2, cv, q1, q2, q3, q4⟩ := hH.2.2.2.2 v _ hv
  obtain ⟨kA, comp, a1, a2, a3, a4⟩ := c4 C rfl
  have hKn := hc.2.2.2.2.2.2.1.1 ci _ d1
  have hts := hc.2.2.2.2.2.1
  obtain ⟨kv, hkv, -⟩ := hKn.2.2
  have hsz : cell.slots.size = vs.length := by rw [c5]; simp
  obtain ⟨kcomp, hkcomp, -⟩ := Vm.findClass_spec a3
  have hinst : s.vm.assignable cv.cls comp = true := by
    rcases hC with h | ⟨h, h'⟩
    · rw [d1] at h
      have h2 : rr.1 = C := Option.some.inj h
      have e1 : comp = D.1 ci := by
        have := hKn.2.1
        rw [h2] at this
        exact Option.some.inj (a3.symm.trans this)
      rw [q2, e1]
      exact va_assign hKn.2
    · subst h'
      subst h
      obtain ⟨c0, t0, f1, f2, f3⟩ := Cond.castable_spec (hts _ (show Cond.castable "PlanJudge$Action" "java/lang/Object" ∈ lw_t2 from lw_at 1686 (by decide +kernel) rfl))
      have e0 : rr.1 = "PlanJudge$Action" := by cases d1; rfl
      have e1 := hKn.2.1
      rw [e0] at e1
      rw [q2, Option.some.inj (e1.symm.trans f1), Option.some.inj (a3.symm.trans f2)]
      exact f3
  refine W.aast hc.1 hc.2.1 c1 c2.1 c3 a1 a2 rfl hkcomp ⟨hj, by omega⟩ q1 (fun z h => by rw [q3] at h; cases h) (by rw [q2]; exact hkv) hinst rfl rfl hd (fun H' e1 e2 e3 => ?_)
  have hH' : HR q D s H0 (mem.set a (.inl (.object C, vs.set j.toNatClampNeg (.ref v)))) H' := by
    refine hH.set hm ha e2 e3 ⟨_, e1, c2, c3, c4, ?_⟩
    show cell.slots.setIfInBounds j.toNatClampNeg (.ref (ad q v)) = _
    rw [c5, List.map_set]
    simp [tr]
  have := k H' (locs ++ [⟨ad q a, j.toNatClampNeg⟩]) ls hH' (fun x hx => by
    rcases List.mem_append.mp hx with h | h
    · exact hl x h
    · rw [List.mem_singleton.mp h]
      show q.2.2 ≤ ad q a
      rw [ad_hi q ha]
      omega) (fun h => by simp at h) hls
  simpa using this
theorem gg_copy {i a b : Nat} {n : Int32} {vs us r : List Value} (hc : Cx p e s m args meth c D M) (hd : decode (mB M) pc = .ok (.invokestatic i, 3)) {z : Nat} (hr : rY (mH M) i = some z) (hm : mem[a]? = some (.inl (.long, vs))) (hv : mem[b]? = some (.inl (.long, us))) (hb : 2 ≤ b) (hn : ¬ n < 0) (hn1 : n.toNatClampNeg = vs.length) (hn2 : us.length = vs.length) (hL : vs.all isL = true) (h8 : (r.map (fun v => v.category)).sum ≤ 8) (hR : 1 ≤ R.frames ∧ 100 ≤ R.locals)
    (k : GG p l e R s m args below meth c q D H0 M n0 Q (w || true) (pc + 3) L r (mem.set b (.inl (.long, vs)))) : GG p l e R s m args below meth c q D H0 M n0 Q w pc L (.int n :: .int 0 :: .ref b :: .int 0 :: .ref a :: r) mem := by
  intro H locs ls hH hl hw hls
  obtain ⟨cs, c1, c2, c3, c4, c5⟩ := hH.2.2.2.2 a _ hm
  obtain ⟨cd, d1, d2, d3, d4, d5⟩ := hH.2.2.2.2 b _ hv
  obtain ⟨ks, hks, comps, hkks⟩ := c2.2
  obtain ⟨kd, hkd, compd, hkkd⟩ := d2.2
  obtain ⟨own, o1, o2⟩ := rY_ok hr
  have hown : s.vm.findClass own = some m.cls := by
    rw [Option.some.inj (o1.symm.trans hc.2.2.2.2.2.2.2.2.2)]
    exact hc.2.2.2.2.1
  have hts := hc.2.2.2.2.2.1
  have s1 : cs.slots.size = n.toNatClampNeg := by rw [c5, hn1]; simp
  have s2 : cd.slots.size = n.toNatClampNeg := by rw [d5, hn1]; simp [hn2]
  have nn : n.toInt = (n.toNatClampNeg : Int) := by
    have hz0 : (0 : Int) ≤ n.toInt := by
      have := Int32.not_lt.mp hn
      simpa using Int32.le_iff_toInt_le.mp this
    show n.toInt = ((n.toInt.toNat : Nat) : Int)
    omega
  have hcat : ((r.map (tr q)).map fun v => v.category).sum = (r.map fun v => v.category).sum := by simp [tr_cat, Function.comp_def]
  intro T hT X
  obtain ⟨vm', X', step⟩ := X.arraycopy hc.1 hown (hts _ o2) (hts _ (lw_at 459 (by decide +kernel) rfl)) (hts _ (lw_at 458 (by decide +kernel) rfl)) (hts _ (lw_at 89 (by decide +kernel) rfl)) (src := ad q a) (dst := ad q b) (cs := cs) (cd := cd) (srcPos := 0) (destPos := 0) (n := n) (by rw [hT]; exact c1) (by rw [hT]; exact d1)
    c2.1 d2.1 c3 d3 hks hkd hkks hkkd (by rfl) (by decide) (by decide) hn (by rw [nn, s1]; show ¬ (0 : Int) + _ > _; omega) (by rw [nn, s2]; show ¬ (0 : Int) + _ > _; omega)
    (fun vm₁ _ i hi => by
      have hi2 : i < vs.length := by omega
      have hx := List.all_eq_true.mp hL vs[i] (List.getElem_mem hi2)
      have e1 : cs.slots.getD ((0 : Int32).toNatClampNeg + i) .null = tr q vs[i] := by
        rw [c5]
        simp [hi2]
      rw [e1]
      cases hvi : vs[i] with
      | long y => exact ⟨rfl, trivial⟩
      | _ => rw [hvi] at hx; cases hx)
    (g := F0 m pc ls (.int n :: .int 0 :: .ref (ad q b) :: .int 0 :: .ref (ad q a) :: r.map (tr q))) rfl (by rw [hc.2.2.1]; exact hls.1) (rest := r.map (tr q)) rfl (by rw [hc.2.1]; exact hd) hR.1 (by
      show 2 * 0 + ((r.map (tr q)).map fun v => v.category).sum + _ ≤ _
      rw [hcat]
      have : nativeFrameWords "java/lang/System" "arraycopy" 5 ≤ 60 := by decide +kernel
      omega)
  have hbl : ad q b < H.size := (Array.getElem?_eq_some_iff.mp d1).1
  have hheap : ((T.setVm vm').setCell (ad q b) (copied cs cd 0 0 n)).heap = H.setIfInBounds (ad q b) (copied cs cd 0 0 n) := by rw [← hT]; rfl
  have hfacts := Cell.storePairs_facts cd 0 (cs.stretch 0 n.toNatClampNeg).zipIdx
  have hH' : HR q D s H0 (mem.set b (.inl (.long, vs))) (H.setIfInBounds (ad q b) (copied cs cd 0 0 n)) := by
    refine hH.set hv hb (by simp) (fun x hx => by simp [Array.getElem?_setIfInBounds, Ne.symm hx]) ⟨copied cs cd 0 0 n, by simp [Array.getElem?_setIfInBounds, hbl], ?_, ?_, ?_, ?_⟩
    · refine ⟨fun z hz => d2.1 z ?_, kd, ?_, compd, hkkd⟩
      · rw [← hfacts.2.1]; exact hz
      · show s.vm.classes[(cd.storePairs 0 (cs.stretch 0 n.toNatClampNeg).zipIdx).cls]? = _
        rw [hfacts.1]; exact hkd
    · show (cd.storePairs 0 (cs.stretch 0 n.toNatClampNeg).zipIdx).vm ≠ .unknown
      rw [hfacts.2.1]; exact d3
    · intro C hC; cases hC
    · show (cd.storeRun 0 (cs.stretch 0 n.toNatClampNeg)).slots = _
      rw [copy_all s1 s2]
      exact c5
  obtain ⟨t, t1, t2⟩ := k _ (locs ++ (cs.stretch (0 : Int32).toNatClampNeg n.toNatClampNeg).zipIdx.map fun q' => ⟨ad q b, (0 : Int32).toNatClampNeg + q'.2⟩) ls hH' (fun x hx => by
    rcases List.mem_append.mp hx with h | h
    · exact hl x h
    · obtain ⟨z, -, hz⟩ := List.mem_map.mp h
      rw [← hz]
      show q.2.2 ≤ ad q b
      rw [ad_hi q hb]
      omega) (fun h => by simp at h) hls _ hheap (by rw [List.length_set]; exact X')
  exact ⟨t, step t t1, t2⟩
end MORE
