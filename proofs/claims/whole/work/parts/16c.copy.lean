/-! Arrays.copyOf of a list's array. -/
section COPY
variable {p : Program} {l : Launch} {e : Env} {R : Room} {s : State} {m : MethodId} {args : Array Value} {below : List Frame} {meth : Method} {c : Code}
variable {q : AQ} {D : va_G} {H0 : Heap} {M : MI} {n0 : Nat} {Q : State → Prop} {w : Bool} {pc : Nat} {L : AL} {st : List Value} {mem : AM} {pc' : Nat} {L' : AL} {st' : List Value} {mem' : AM}
theorem own4 (hc : Cx p e s m args meth c D M) (hM : mH M = 4) : s.vm.findClass "java/util/Arrays" = some m.cls := by
  have e1 := hc.2.2.2.2.2.2.2.2.2
  rw [hM] at e1
  rw [Option.some.inj (show some "java/util/Arrays" = some (mY M).cls from e1)]
  exact hc.2.2.2.2.1
theorem min_code : Cond.code Lib.Math.min.name Lib.Math.min.code 2 (some .int) ∈ lw_t2 := by
  rw [show Lib.Math.min.code = prog_20_method_69_code by decide +kernel]
  exact lw_at 889 (by decide +kernel) rfl
theorem gg_min {x y : Int32} {r : List Value} (hc : Cx p e s m args meth c D M) (hM : mH M = 4) (hd : decode (mB M) pc = .ok (.invokestatic 304, 3)) (h8 : (r.map (fun v => v.category)).sum ≤ 8) (hR : 1 ≤ R.frames ∧ 100 ≤ R.locals) (hroom : mem.length - n0 ≤ R.cells ∧ 100 * (mem.length - n0) ≤ R.slots)
    (k : GG p l e R s m args below meth c q D H0 M n0 Q w (pc + 3) L (.int (if y < x then y else x) :: r) mem) : GG p l e R s m args below meth c q D H0 M n0 Q w pc L (.int y :: .int x :: r) mem := by
  intro H locs ls hH hl hw hls T hT X
  have hts := hc.2.2.2.2.2.1
  have hcat : ((r.map (tr q)).map fun v => v.category).sum = (r.map fun v => v.category).sum := by simp [tr_cat, Function.comp_def]
  obtain ⟨vm', X', st⟩ := X.mathMinV hc.1 (index := 304) (own4 hc hM) (hts _ (lw_at 887 (by decide +kernel) rfl)) (hts _ (lw_at 888 (by decide +kernel) rfl)) (hts _ (lw_at 88 (by decide +kernel) rfl)) (hts _ min_code) (g := F0 m pc ls (.int y :: .int x :: r.map (tr q))) rfl (by rw [hc.2.2.1]; exact hls.1) (a := x) (b := y) (rest := r.map (tr q)) rfl (by rw [hc.2.1]; exact hd) hR.1 (by
    show 2 * 0 + ((r.map (tr q)).map fun v => v.category).sum + 13 ≤ _
    rw [hcat]
    omega) hroom.1 hroom.2
  obtain ⟨t, t1, t2⟩ := k H locs ls hH hl hw hls (T.setVm vm') hT X'
  exact ⟨t, st t t1, t2⟩
theorem copy_some {cs cd : Cell} {n : Nat} {vs us : List Value} (h1 : cs.slots = vs.toArray) (h2 : cd.slots = us.toArray) (hn : n = vs.length) (hl : vs.length ≤ us.length) : (cd.storeRun 0 (cs.stretch 0 n)).slots = (vs ++ us.drop vs.length).toArray := by
  subst hn
  apply Array.ext_getElem?
  intro k
  unfold Cell.storeRun
  rw [sp_get]
  have hl2 : (cs.stretch 0 vs.length).length = vs.length := by simp [Cell.stretch]
  have hs : cd.slots.size = us.length := by rw [h2]; simp
  by_cases hk : k < vs.length
  · rw [if_pos (by omega)]
    rw [List.getElem?_toArray, List.getElem?_append_left hk]
    simp [Cell.stretch, hk, h1]
  · rw [if_neg (by omega), h2]
    simp only [List.getElem?_toArray]
    rw [List.getElem?_append_right (by omega), List.getElem?_drop]
    congr 1
    omega
theorem gg_copyO {a b : Nat} {n : Int32} {vs us r : List Value} (hc : Cx p e s m args meth c D M) (hM : mH M = 4) (hd : decode (mB M) pc = .ok (.invokestatic 150, 3)) (hm : mem[a]? = some (.inl (.object "java/lang/Object", vs))) (hv : mem[b]? = some (.inl (.object "java/lang/Object", us))) (hb : 2 ≤ b) (hn : ¬ n < 0) (hn1 : n.toNatClampNeg = vs.length) (hn2 : vs.length ≤ us.length) (hL : vs.all (okE1 mem) = true) (h8 : (r.map (fun v => v.category)).sum ≤ 8) (hR : 1 ≤ R.frames ∧ 100 ≤ R.locals)
    (k : GG p l e R s m args below meth c q D H0 M n0 Q true (pc + 3) L r (mem.set b (.inl (.object "java/lang/Object", vs ++ us.drop vs.length)))) : GG p l e R s m args below meth c q D H0 M n0 Q w pc L (.int n :: .int 0 :: .ref b :: .int 0 :: .ref a :: r) mem := by
  intro H locs ls hH hl hw hls
  obtain ⟨cs, c1, c2, c3, c4, c5⟩ := hH.2.2.2.2 a _ hm
  obtain ⟨cd, d1, d2, d3, d4, d5⟩ := hH.2.2.2.2 b _ hv
  obtain ⟨ks, hks, comps, hkks⟩ := c2.2
  obtain ⟨kd, hkd, compd, hkkd⟩ := d2.2
  obtain ⟨kA, comp, r1, r2, r3, r4⟩ := d4 _ rfl
  cases hkd.symm.trans r1
  cases hkkd.symm.trans r2
  have hts := hc.2.2.2.2.2.1
  have s1 : cs.slots.size = n.toNatClampNeg := by rw [c5, hn1]; simp
  have s2 : n.toNatClampNeg ≤ cd.slots.size := by rw [d5, hn1]; simpa using hn2
  have nn : n.toInt = (n.toNatClampNeg : Int) := by
    have hz0 : (0 : Int) ≤ n.toInt := by
      have := Int32.not_lt.mp hn
      simpa using Int32.le_iff_toInt_le.mp this
    show n.toInt = ((n.toInt.toNat : Nat) : Int)
    omega
  have hcat : ((r.map (tr q)).map fun v => v.category).sum = (r.map fun v => v.category).sum := by simp [tr_cat, Function.comp_def]
  intro T hT X
  obtain ⟨vm', X', step⟩ := X.arraycopy hc.1 (own4 hc hM) (hts _ (show Cond.methodLink "java/util/Arrays" 150 arraycopyName ∈ lw_t2 by
      obtain ⟨own, o1, o2⟩ := rY_ok (h := 4) (i := 150) (a := 0) rfl
      cases o1
      exact o2)) (hts _ (lw_at 459 (by decide +kernel) rfl)) (hts _ (lw_at 458 (by decide +kernel) rfl)) (hts _ (lw_at 89 (by decide +kernel) rfl)) (src := ad q a) (dst := ad q b) (cs := cs) (cd := cd) (srcPos := 0) (destPos := 0) (n := n) (by rw [hT]; exact c1) (by rw [hT]; exact d1)
    c2.1 d2.1 c3 d3 hks hkd hkks hkkd (by rfl) (by decide) (by decide) hn (by rw [nn, s1]; show ¬ (0 : Int) + _ > _; omega) (by rw [nn]; show ¬ (0 : Int) + _ > _; omega)
    (fun vm₁ hal i hi => by
      have hi2 : i < vs.length := by omega
      have hx := List.all_eq_true.mp hL vs[i] (List.getElem_mem hi2)
      have e1 : cs.slots.getD ((0 : Int32).toNatClampNeg + i) .null = tr q vs[i] := by
        rw [c5]
        simp [hi2]
      rw [e1]
      cases hvi : vs[i] with
      | null => exact ⟨rfl, trivial⟩
      | ref x =>
        rw [hvi] at hx
        unfold okE1 at hx
        dsimp only at hx
        split at hx
        · rename_i ci fs hmx
          have hci : ci = 1 := by simpa using hx
          subst hci
          obtain ⟨rr, f1, f2, cv, g1, g2, g3, g4⟩ := hH.2.2.2.2 x _ hmx
          have hKn := hc.2.2.2.2.2.2.1.1 1 _ f1
          obtain ⟨kv, hkv, -⟩ := hKn.2.2
          obtain ⟨c0, t0, i1, i2, i3⟩ := Cond.castable_spec (hts _ (show Cond.castable "PlanJudge$Action" "java/lang/Object" ∈ lw_t2 from lw_at 1686 (by decide +kernel) rfl))
          have e0 : rr.1 = "PlanJudge$Action" := by cases f1; rfl
          have j1 := hKn.2.1
          rw [e0] at j1
          have hinst : s.vm.assignable cv.cls compd = true := by
            rw [g2, Option.some.inj (j1.symm.trans i1), Option.some.inj (r3.symm.trans i2)]
            exact i3
          obtain ⟨kE, hkE, -⟩ := Vm.findClass_spec r3
          obtain ⟨kC', hkC', -⟩ := hal.2.2 _ _ (show s.vm.classes[cv.cls]? = some kv by rw [g2]; exact hkv)
          obtain ⟨kE', hkE', -⟩ := hal.2.2 _ _ hkE
          refine ⟨rfl, cv, (show T.heap[ad q x]? = some cv by rw [hT]; exact g1), (fun z h => by rw [g3] at h; cases h), ⟨kC', hkC'⟩, ⟨kE', hkE'⟩, ?_⟩
          show vm₁.assignable _ _ = true
          rw [hal.assignable]
          exact hinst
        · cases hx
      | _ => rw [hvi] at hx; cases hx)
    (g := F0 m pc ls (.int n :: .int 0 :: .ref (ad q b) :: .int 0 :: .ref (ad q a) :: r.map (tr q))) rfl (by rw [hc.2.2.1]; exact hls.1) (rest := r.map (tr q)) rfl (by rw [hc.2.1]; exact hd) hR.1 (by
      show 2 * 0 + ((r.map (tr q)).map fun v => v.category).sum + _ ≤ _
      rw [hcat]
      have : nativeFrameWords "java/lang/System" "arraycopy" 5 ≤ 60 := by decide +kernel
      omega)
  have hbl : ad q b < H.size := (Array.getElem?_eq_some_iff.mp d1).1
  have hheap : ((T.setVm vm').setCell (ad q b) (copied cs cd 0 0 n)).heap = H.setIfInBounds (ad q b) (copied cs cd 0 0 n) := by rw [← hT]; rfl
  have hfacts := Cell.storePairs_facts cd 0 (cs.stretch 0 n.toNatClampNeg).zipIdx
  have hcls : (copied cs cd 0 0 n).cls = cd.cls := hfacts.1
  have hH' : HR q D s H0 (mem.set b (.inl (.object "java/lang/Object", vs ++ us.drop vs.length))) (H.setIfInBounds (ad q b) (copied cs cd 0 0 n)) := by
    refine hH.set hv hb (by simp) (fun x hx => by simp [Array.getElem?_setIfInBounds, Ne.symm hx]) ⟨copied cs cd 0 0 n, by simp [Array.getElem?_setIfInBounds, hbl], ?_, ?_, ?_, ?_⟩
    · refine ⟨fun z hz => d2.1 z ?_, kd, ?_, compd, hkkd⟩
      · rw [← hfacts.2.1]; exact hz
      · rw [hcls]; exact hkd
    · show (cd.storePairs 0 (cs.stretch 0 n.toNatClampNeg).zipIdx).vm ≠ .unknown
      rw [hfacts.2.1]; exact d3
    · intro C hC
      rw [hcls]
      exact d4 C hC
    · show (cd.storeRun 0 (cs.stretch 0 n.toNatClampNeg)).slots = _
      rw [copy_some c5 d5 (by rw [hn1]; simp) (by simpa using hn2)]
      simp
  obtain ⟨t, t1, t2⟩ := k _ (locs ++ (cs.stretch (0 : Int32).toNatClampNeg n.toNatClampNeg).zipIdx.map fun q' => ⟨ad q b, (0 : Int32).toNatClampNeg + q'.2⟩) ls hH' (fun x hx => by
    rcases List.mem_append.mp hx with h | h
    · exact hl x h
    · obtain ⟨z, -, hz⟩ := List.mem_map.mp h
      rw [← hz]
      show q.2.2 ≤ ad q b
      rw [ad_hi q hb]
      omega) (fun h => by simp at h) hls _ hheap (by rw [List.length_set]; exact X')
  exact ⟨t, step t t1, t2⟩
theorem nat32 {k : Nat} (h : k ≤ 100) : k.toInt32.toNatClampNeg = k ∧ ¬ k.toInt32 < 0 ∧ k.toInt32.toInt = k := by
  have : ∀ i : Fin 101, (i : Nat).toInt32.toNatClampNeg = i ∧ ¬ (i : Nat).toInt32 < 0 ∧ (i : Nat).toInt32.toInt = (i : Nat) := by decide +kernel
  exact this ⟨k, by omega⟩
theorem gg_cop2 {a : Nat} {n : Int32} {vs : List Value} (hc : Cx p e s m args meth c D m_Arrays_copyOf2) (hkx : KX q H0 s) (hm : mem[a]? = some (.inl (.object "java/lang/Object", vs))) (hn : ¬ n < 0) (hn1 : vs.length ≤ n.toNatClampNeg) (hn2 : n.toNatClampNeg ≤ 100) (hL : vs.all (okE1 mem) = true) (h2 : 2 ≤ mem.length) (hR : 1 ≤ R.frames ∧ 100 ≤ R.locals) (hC : 1 ≤ R.cells ∧ 100 ≤ R.slots) :
    GG p l e R s m args below meth c q D H0 m_Arrays_copyOf2 mem.length (EQ below q D H0 (.inl (some (.ref mem.length)), mem ++ [(.inl (.object "java/lang/Object", vs ++ List.replicate (n.toNatClampNeg - vs.length) .null))], true) ((mem ++ [(.inl (.object "java/lang/Object", vs ++ List.replicate (n.toNatClampNeg - vs.length) .null))] : AM).length - mem.length) s) false 6 [(0, .ref a), (1, .int n)] [] mem := by
  have hneg : ¬ (n < 0 ∨ 100 < n.toNatClampNeg) := fun z => z.elim hn (fun z => by omega)
  obtain ⟨v1, v2, v3⟩ := nat32 (k := vs.length) (by omega)
  have hnl : ¬ n < vs.length.toInt32 := fun z => by
    have z1 := Int32.lt_iff_toInt_lt.mp z
    rw [v3] at z1
    have : n.toNatClampNeg = n.toInt.toNat := rfl
    have : (0 : Int) ≤ n.toInt := by
      have := Int32.not_lt.mp hn
      simpa using Int32.le_iff_toInt_le.mp this
    omega
  have ha : a < mem.length := (List.getElem?_eq_some_iff.mp hm).1
  have hm1 : (mem ++ [.inl (.object "java/lang/Object", List.replicate n.toNatClampNeg .null)] : AM)[a]? = some (.inl (.object "java/lang/Object", vs)) := by rw [List.getElem?_append_left ha]; exact hm
  have hm2 : (mem ++ [.inl (.object "java/lang/Object", List.replicate n.toNatClampNeg .null)] : AM)[mem.length]? = some (.inl (.object "java/lang/Object", List.replicate n.toNatClampNeg .null)) := by simp
  have hL1 : vs.all (okE1 (mem ++ [.inl (.object "java/lang/Object", List.replicate n.toNatClampNeg .null)])) = true := by
    refine List.all_eq_true.mpr (fun v hv => ?_)
    have hx := List.all_eq_true.mp hL v hv
    cases v with
    | ref x =>
      unfold okE1 at hx ⊢
      dsimp only at hx ⊢
      split at hx
      · rename_i ci fs hmx
        rw [List.getElem?_append_left (List.getElem?_eq_some_iff.mp hmx).1, hmx]
        exact hx
      · cases hx
    | _ => exact hx
  have hl1 : (mem ++ [.inl (.object "java/lang/Object", List.replicate n.toNatClampNeg .null)] : AM).length = mem.length + 1 := by simp
  refine one_go hc hkx (show fetch m_Arrays_copyOf2 6 = some (.iload_n 1) by decide +kernel) (show one m_Arrays_copyOf2 (.iload_n 1) 6 _ _ _ = some (.inl (7, [(0, .ref a), (1, .int n)], [.int n], mem)) from rfl) (Nat.le_refl _) ⟨by omega, by omega⟩ hR ?_
  refine one_go hc hkx (show fetch m_Arrays_copyOf2 7 = some (.anewarray 2) by decide +kernel) (show one m_Arrays_copyOf2 (.anewarray 2) 7 _ _ _ = some (.inl (10, [(0, .ref a), (1, .int n)], [.ref mem.length], mem ++ [.inl (.object "java/lang/Object", List.replicate n.toNatClampNeg .null)])) by
    dsimp only [one]
    rw [show rA (mH m_Arrays_copyOf2) 2 = some "java/lang/Object" from rfl]
    dsimp only
    rw [if_neg hneg]
    rfl) (Nat.le_refl _) ⟨by rw [hl1]; omega, by rw [hl1]; omega⟩ hR ?_
  refine one_go hc hkx (show fetch m_Arrays_copyOf2 10 = some (.goto 14) by decide +kernel) (show one m_Arrays_copyOf2 (.goto 14) 10 _ _ _ = some (.inl (24, [(0, .ref a), (1, .int n)], [.ref mem.length], mem ++ [.inl (.object "java/lang/Object", List.replicate n.toNatClampNeg .null)])) from rfl) (by rw [hl1]; omega) ⟨by rw [hl1]; omega, by rw [hl1]; omega⟩ hR ?_
  refine one_go hc hkx (show fetch m_Arrays_copyOf2 24 = some (.astore_n 3) by decide +kernel) (show one m_Arrays_copyOf2 (.astore_n 3) 24 _ _ _ = some (.inl (25, [(3, .ref mem.length), (0, .ref a), (1, .int n)], [], mem ++ [.inl (.object "java/lang/Object", List.replicate n.toNatClampNeg .null)])) from rfl) (by rw [hl1]; omega) ⟨by rw [hl1]; omega, by rw [hl1]; omega⟩ hR ?_
  refine one_go hc hkx (show fetch m_Arrays_copyOf2 25 = some (.aload_n 0) by decide +kernel) (show one m_Arrays_copyOf2 (.aload_n 0) 25 _ _ _ = some (.inl (26, [(3, .ref mem.length), (0, .ref a), (1, .int n)], [.ref a], mem ++ [.inl (.object "java/lang/Object", List.replicate n.toNatClampNeg .null)])) from rfl) (by rw [hl1]; omega) ⟨by rw [hl1]; omega, by rw [hl1]; omega⟩ hR ?_
  refine one_go hc hkx (show fetch m_Arrays_copyOf2 26 = some (.iconst 0) by decide +kernel) (show one m_Arrays_copyOf2 (.iconst 0) 26 _ _ _ = some (.inl (27, [(3, .ref mem.length), (0, .ref a), (1, .int n)], [.int 0, .ref a], mem ++ [.inl (.object "java/lang/Object", List.replicate n.toNatClampNeg .null)])) from rfl) (by rw [hl1]; omega) ⟨by rw [hl1]; omega, by rw [hl1]; omega⟩ hR ?_
  refine one_go hc hkx (show fetch m_Arrays_copyOf2 27 = some (.aload_n 3) by decide +kernel) (show one m_Arrays_copyOf2 (.aload_n 3) 27 _ _ _ = some (.inl (28, [(3, .ref mem.length), (0, .ref a), (1, .int n)], [.ref mem.length, .int 0, .ref a], mem ++ [.inl (.object "java/lang/Object", List.replicate n.toNatClampNeg .null)])) from rfl) (by rw [hl1]; omega) ⟨by rw [hl1]; omega, by rw [hl1]; omega⟩ hR ?_
  refine one_go hc hkx (show fetch m_Arrays_copyOf2 28 = some (.iconst 0) by decide +kernel) (show one m_Arrays_copyOf2 (.iconst 0) 28 _ _ _ = some (.inl (29, [(3, .ref mem.length), (0, .ref a), (1, .int n)], [.int 0, .ref mem.length, .int 0, .ref a], mem ++ [.inl (.object "java/lang/Object", List.replicate n.toNatClampNeg .null)])) from rfl) (by rw [hl1]; omega) ⟨by rw [hl1]; omega, by rw [hl1]; omega⟩ hR ?_
  refine one_go hc hkx (show fetch m_Arrays_copyOf2 29 = some (.aload_n 0) by decide +kernel) (show one m_Arrays_copyOf2 (.aload_n 0) 29 _ _ _ = some (.inl (30, [(3, .ref mem.length), (0, .ref a), (1, .int n)], [.ref a, .int 0, .ref mem.length, .int 0, .ref a], mem ++ [.inl (.object "java/lang/Object", List.replicate n.toNatClampNeg .null)])) from rfl) (by rw [hl1]; omega) ⟨by rw [hl1]; omega, by rw [hl1]; omega⟩ hR ?_
  refine one_go hc hkx (show fetch m_Arrays_copyOf2 30 = some (.arraylength) by decide +kernel) (show one m_Arrays_copyOf2 (.arraylength) 30 _ _ _ = some (.inl (31, [(3, .ref mem.length), (0, .ref a), (1, .int n)], [.int vs.length.toInt32, .int 0, .ref mem.length, .int 0, .ref a], mem ++ [.inl (.object "java/lang/Object", List.replicate n.toNatClampNeg .null)])) by 
    dsimp only [one]
    rw [hm1]
    rfl) (by rw [hl1]; omega) ⟨by rw [hl1]; omega, by rw [hl1]; omega⟩ hR ?_
  refine one_go hc hkx (show fetch m_Arrays_copyOf2 31 = some (.iload_n 1) by decide +kernel) (show one m_Arrays_copyOf2 (.iload_n 1) 31 _ _ _ = some (.inl (32, [(3, .ref mem.length), (0, .ref a), (1, .int n)], [.int n, .int vs.length.toInt32, .int 0, .ref mem.length, .int 0, .ref a], mem ++ [.inl (.object "java/lang/Object", List.replicate n.toNatClampNeg .null)])) from rfl) (by rw [hl1]; omega) ⟨by rw [hl1]; omega, by rw [hl1]; omega⟩ hR ?_
  refine gg_min hc rfl (fetch_new (show fetch m_Arrays_copyOf2 32 = some (.invokestatic 304) by decide +kernel) (fun _ _ _ _ z => by cases z)) (Nat.le_of_ble_eq_true rfl) hR ⟨by rw [hl1]; omega, by rw [hl1]; omega⟩ ?_
  rw [if_neg hnl]
  refine gg_copyO hc rfl (fetch_new (show fetch m_Arrays_copyOf2 35 = some (.invokestatic 150) by decide +kernel) (fun _ _ _ _ z => by cases z)) hm1 hm2 h2 v2 v1 (by simpa using hn1) hL1 (Nat.le_of_ble_eq_true rfl) hR ?_
  rw [show (mem ++ [.inl (.object "java/lang/Object", List.replicate n.toNatClampNeg .null)] : AM).set mem.length (.inl (.object "java/lang/Object", vs ++ (List.replicate n.toNatClampNeg Value.null).drop vs.length)) = mem ++ [(.inl (.object "java/lang/Object", vs ++ List.replicate (n.toNatClampNeg - vs.length) .null))] by
    rw [List.set_append_right _ _ (Nat.le_refl _), Nat.sub_self, List.drop_replicate]
    rfl]
  have hl2 : (mem ++ [(.inl (.object "java/lang/Object", vs ++ List.replicate (n.toNatClampNeg - vs.length) .null))] : AM).length = mem.length + 1 := by simp
  refine one_go hc hkx (show fetch m_Arrays_copyOf2 38 = some (.aload_n 3) by decide +kernel) (show one m_Arrays_copyOf2 (.aload_n 3) 38 _ _ _ = some (.inl (39, [(3, .ref mem.length), (0, .ref a), (1, .int n)], [.ref mem.length], mem ++ [(.inl (.object "java/lang/Object", vs ++ List.replicate (n.toNatClampNeg - vs.length) .null))])) from rfl) (by rw [hl2]; omega) ⟨by rw [hl2]; omega, by rw [hl2]; omega⟩ hR ?_
  exact one_ret hc (show fetch m_Arrays_copyOf2 39 = some .areturn by decide +kernel) (v := some (.ref mem.length)) rfl
def rmC : Room := { frames := 3, cells := 1, slots := 100, locals := 120 }
theorem mx_copy {a mi : Nat} {n : Int32} {vs : List Value} (hm : mem[a]? = some (.inl (.object "java/lang/Object", vs))) (hn : ¬ n < 0) (hn1 : vs.length ≤ n.toNatClampNeg) (hn2 : n.toNatClampNeg ≤ 100) (hL : vs.all (okE1 mem) = true) :
    MXr l q D H0 (mY m_Arrays_copyOf2) rmC ([.ref (ad q a), .int n, .ref mi] : List Value).toArray mem (.inl (some (.ref mem.length)), mem ++ [(.inl (.object "java/lang/Object", vs ++ List.replicate (n.toNatClampNeg - vs.length) .null))], true) 1 (fun U => KX q H0 U ∧ va_Mi "[Ljava/lang/Object;" mi U) := by
  have hM := ok_Arrays_copyOf2
  refine MetFree.of_bodySF (code := mB m_Arrays_copyOf2) (maxLocals := mL m_Arrays_copyOf2) (ret := mR m_Arrays_copyOf2) hM.2.1 ?_ ?_
  · intro args s m h hn
    obtain ⟨mk, meth, c, a1, a2, a3, a4, a5, a6, a7, -, -⟩ := okMI_spec hM (atoms_spec (ws := lw_t2) h)
    cases Option.some.inj (a1.symm.trans hn)
    exact ⟨meth, c, a2, a3, a4, a5, a6, a7⟩
  · intro p e s m args below meth c s₁ B hml hP _
    obtain ⟨rfl, hH, hK, hKX, hMi⟩ := hP
    have hts := atoms_spec (ws := lw_t2) B.pre
    have hh0 : s₁.heap = s.heap := by rw [B.state]; rfl
    have hcx : Cx p e s m ([.ref (ad q a), .int n, .ref mi] : List Value).toArray meth c D m_Arrays_copyOf2 := ⟨B.exec, B.bytes, hml, B.returns, findClass_of_methodNamed B.named, hts, hK, B.notSynchronized, fun h => (name_of_methodNamed B.named B.method).1.trans (hM.2.2.2.2.1 h), hM.1⟩
    have hls := lv_entry ([.ref (ad q a), .int n, .ref mi] : List Value) (n := 4) (Nat.le_of_ble_eq_true rfl)
    have kk := gg_cop2 (p := p) (l := l) (e := e) (R := rmC) (s := s) (below := below) (meth := meth) (c := c) (q := q) (H0 := H0) hcx hKX hm hn hn1 hn2 hL hH.1 ⟨by decide, by decide⟩ ⟨by decide, by decide⟩ s₁.heap [] _ (by rw [hh0]; exact hH) (fun x h => by cases h) (fun _ => rfl) (show lv_has _ 4 (trL q [(0, .ref a), (1, .int n)]) from ⟨hls.1, hls.2.1, fun x hx => hls.2.2 x (by
      rcases List.mem_cons.mp hx with h | h
      · rw [h]; exact List.mem_cons_self
      · rcases List.mem_cons.mp h with h | h
        · rw [h]; exact List.mem_cons_of_mem _ List.mem_cons_self
        · cases h)⟩)
    rw [Nat.sub_self, Nat.mul_zero] at kk
    have W0 := lv_aload_n hcx.1 hcx.2.1 (fetch_new (show fetch m_Arrays_copyOf2 0 = some (.aload_n 2) by decide +kernel) (fun _ _ _ _ z => by cases z)) rfl (hls.2.2 (2, .ref mi) (List.mem_cons_of_mem _ (List.mem_cons_of_mem _ List.mem_cons_self)))
      (va_ldcM hcx.1 hcx.2.1 (own4 hcx rfl) (hts _ (lw_at 884 (by decide +kernel) rfl)) hMi (fetch_new (show fetch m_Arrays_copyOf2 1 = some (.ldc 110) by decide +kernel) (fun _ _ _ _ z => by cases z))
        (lv_acmp_ne (rx := some mi) (ry := some mi) (tgt := 13) hcx.1 hcx.2.1 (fetch_new (show fetch m_Arrays_copyOf2 3 = some (.if_acmp .ne 10) by decide +kernel) (fun _ _ _ _ z => by cases z)) rfl (fun h => absurd rfl h) (fun _ => kk)))
    obtain ⟨t, b1, o, b2, b3, b4⟩ := W0 s₁ rfl (Stand.of_body B)
    have hl2 : (mem ++ [(.inl (.object "java/lang/Object", vs ++ List.replicate (n.toNatClampNeg - vs.length) .null))] : AM).length - mem.length = 1 := by simp
    rw [hl2] at b4
    refine ⟨t, o, ?_, b2, b3, b4⟩
    rw [lg_entry_eq]
    exact b1
theorem gg_cop {a : Nat} {n : Int32} {vs : List Value} (hc : Cx p e s m args meth c D M) (hkx : KX q H0 s) (hd : decode (mB M) pc = .ok (.invokevirtual 86, 3)) (hd2 : decode (mB M) (pc + 3) = .ok (.invokestatic 300, 3)) (hM : mH M = 4) (hm : mem[a]? = some (.inl (.object "java/lang/Object", vs))) (hn : ¬ n < 0) (hn1 : vs.length ≤ n.toNatClampNeg) (hn2 : n.toNatClampNeg ≤ 100) (hL : vs.all (okE1 mem) = true) (hn0 : n0 ≤ mem.length) (hroom : mem.length + 1 - n0 ≤ R.cells ∧ 100 * (mem.length + 1 - n0) ≤ R.slots) (hfr : 8 ≤ R.frames ∧ 200 ≤ R.locals)
    (k : GG p l e R s m args below meth c q D H0 M n0 Q true (pc + 6) L [.ref mem.length] (mem ++ [(.inl (.object "java/lang/Object", vs ++ List.replicate (n.toNatClampNeg - vs.length) .null))])) : GG p l e R s m args below meth c q D H0 M n0 Q w pc L [.ref a, .int n, .ref a] mem := by
  intro H locs ls hH hl hw hls
  obtain ⟨mi, hMi⟩ := hkx.2.2.2.2.2
  obtain ⟨cell, c1, c2, c3, c4, c5⟩ := hH.2.2.2.2 a _ hm
  obtain ⟨kA, comp, r1, r2, r3, r4⟩ := c4 _ rfl
  have hts := hc.2.2.2.2.2.1
  have hst : cell.vm.isStatics = false := by
    cases hv : cell.vm with
    | statics z => exact absurd hv (c2.1 z)
    | _ => rfl
  refine va_getC (C := "[Ljava/lang/Object;") (index := 86) hc.1 hc.2.1 (by rw [hc.2.2.1]; exact hls.1.symm) (own4 hc hM) (hts _ (lw_at 862 (by decide +kernel) rfl)) (hts _ (lw_at 1676 (by decide +kernel) rfl)) (hts _ (lw_at 1675 (by decide +kernel) rfl)) (hts _ (lw_at 863 (by decide +kernel) rfl)) (hts _ (lw_at 880 (by decide +kernel) rfl)) hMi ⟨cell, c1, hst, r4⟩ (by omega) (show 2 + 14 ≤ R.locals by omega) hd ?_
  intro T hT X
  subst hT
  obtain ⟨own, host, o1, o2, -, o3, o4, o5⟩ := c_4_300
  obtain ⟨mk, methY, cY, a1, a2, a3, a4, a5, a6, a7, a8, a9⟩ := okMI_spec o2 hts
  obtain ⟨kP, hkP, -⟩ := className_of_methodNamed a1
  have hinitP : kP.init = .initialized := Cond.initialized_spec (findClass_of_methodNamed a1) hkP (hts _ o2.2.2.2.1)
  have hlen : ([.ref (ad q a), .int n, .ref mi] : List Value).length = methY.sig.parameters.length := by
    dsimp only at o4
    rw [a9] at o4
    have : methY.sig.parameters.length = 3 := Option.some.inj o4
    rw [this]
    rfl
  obtain ⟨vm₁, X₁, hs⟩ := X.invokestatic hc.1 (own4 hc hM) (hts _ (show Cond.methodLink "java/util/Arrays" 300 (mY m_Arrays_copyOf2) ∈ lw_t2 from lw_at 881 (by decide +kernel) rfl)) a1 a2 (Cond.static_spec a1 a2 (hts _ (show Cond.static (mY m_Arrays_copyOf2) ∈ lw_t2 from lw_at 882 (by decide +kernel) rfl))) hkP hinitP o3 (g := F0 m (pc + 3) ls (.ref mi :: .int n :: .ref (ad q a) :: [])) rfl (argsL := [.ref (ad q a), .int n, .ref mi]) (rest := []) hlen rfl (by rw [hc.2.1]; exact hd2)
  obtain ⟨T', Lc, X', b1, b2, b3, b4, -⟩ := call_raw X₁ hts (mx_copy (l := l) (q := q) (D := D) (H0 := H0) (mi := mi) hm hn hn1 hn2 hL) rfl rfl (X₁.named a1) (by rw [X₁.warmed.alike.method?]; exact a2) a3 a5 (hts _ o2.2.2.2.1) (g := F0 m (pc + 3) ls []) rfl (by rw [hc.2.2.1]; exact hls.1) (ig := .invokestatic 300) (len := 3) (by rw [hc.2.1]; exact hd2)
    (show 3 + 1 ≤ R.frames by omega) (show 2 * 0 + 0 + (4 + 11) + 120 ≤ R.locals by omega) (by omega) (by omega) hH hc.2.2.2.2.2.2.1 ⟨KX.moved hkx X₁.warmed.alike (fun x hx => hH.2.2.2.1 x hx), va_Mi.moved X₁.warmed.alike hMi⟩
  have hl2 : (mem ++ [(.inl (.object "java/lang/Object", vs ++ List.replicate (n.toNatClampNeg - vs.length) .null))] : AM).length - n0 = mem.length - n0 + 1 := by simp; omega
  obtain ⟨t, t1, t2⟩ := k T'.heap (locs ++ Lc) ls b1 (fun x hx => (List.mem_append.mp hx).elim (hl x) (b2 x)) (fun hz => by cases hz) hls T' rfl (by
    rw [hl2, Nat.mul_add]
    exact X')
  exact ⟨t, hs t (fun acts => by rw [doInvoke_state]; exact (b4 _ rfl).trans t1), t2⟩
end COPY
