section THRNEW
variable {p : Program} {l : Launch} {e : Env} {R : Room} {s : State} {m : MethodId} {args : Array Value} {below : List Frame} {meth : Method} {c : Code}
variable {q : AQ} {D : va_G} {H0 : Heap} {M : MI} {n0 : Nat} {w : Bool} {pc : Nat} {L : AL} {st : List Value} {mem : AM}
theorem fetch_new {M : MI} {pc : Nat} {i : Instr} (h : fetch M pc = some i) (hn : ∀ d lo hi offs, i ≠ .tableswitch d lo hi offs) : decode (mB M) pc = .ok (i, ilen i) := by
  rcases fetch_dec h with hd | ⟨d, lo, hi, offs, n, rfl, -⟩
  · exact hd
  · exact absurd rfl (hn d lo hi offs)
set_option maxHeartbeats 1000000 in
theorem gg_throw (hc : Cx p e s m args meth c D M) (hy : Cy e s c q H0 M) {i j ci : Nat} {rr : vw_C} (hf : fetch M pc = some (.new i)) (h3 : fetch M (pc + 3) = some .dup) (h4 : fetch M (pc + 4) = some (.invokespecial j)) (h7 : fetch M (pc + 7) = some .athrow)
    (hr : rC (mH M) i = some ci) (hcl : CLs[ci]? = some rr) (h12 : 12 ≤ ci) (hE : rE (mH M) j = some ci) (hx : mX M = []) (hn0 : n0 = mem.length) (hw0 : w = false) (hst : (st.map (fun v => v.category)).sum ≤ 8) (hR : 8 ≤ R.frames ∧ 200 ≤ R.locals ∧ 1 ≤ R.cells ∧ 100 ≤ R.slots) :
    GG p l e R s m args below meth c q D H0 M n0 (EQ below q D H0 (.inr mem.length, mem ++ [.inr (ci, [])], w) ((mem ++ [.inr (ci, [])] : AM).length - n0) s) w pc L st mem := by
  intro H locs ls hH hl hw hls
  have hlocs := hw hw0
  subst hlocs
  have hz : mem.length - n0 = 0 := by omega
  have h1 : ((mem ++ [.inr (ci, [])] : AM).length - n0) = 1 := by simp; omega
  rw [h1, hz, Nat.mul_zero]
  obtain ⟨own, C, T, N, o1, o2, o3⟩ := rC_ok hr
  have he : (C, T, N) = rr := Option.some.inj (o2.symm.trans hcl)
  subst he
  obtain ⟨n, ty, e0, k0, hin, hty, hnm, hins, hini, hNn, hn⟩ := cls_all o2
  have hown : s.vm.findClass own = some m.cls := by
    rw [Option.some.inj (o1.symm.trans hc.2.2.2.2.2.2.2.2.2)]
    exact hc.2.2.2.2.1
  have hts := hc.2.2.2.2.2.1
  have hKn := hc.2.2.2.2.2.2.1.1 ci _ o2
  obtain ⟨rr', p1, p2, p3, p4⟩ := rE_own hE
  have he2 : (C, T, N) = rr' := Option.some.inj (o2.symm.trans p2)
  subst he2
  have hown2 : s.vm.findClass "PlanJudge" = some m.cls := by
    rw [Option.some.inj (p1.symm.trans hc.2.2.2.2.2.2.2.2.2)]
    exact hc.2.2.2.2.1
  have hN0 : N = 0 := by
    have hlt : ci < 15 := (List.getElem?_eq_some_iff.mp o2).1
    have : ci = 12 ∨ ci = 13 ∨ ci = 14 := by omega
    rcases this with rfl | rfl | rfl <;> cases o2 <;> rfl
  intro T0 hT0 X0
  have hsz : T0.heap.size = s.heap.size := by
    have a1 := X0.same.2.1
    have a2 := X0.same.2.2.1
    have a3 : s.heap.size ≤ T0.heap.size := a1
    have a4 : T0.heap.size ≤ s.heap.size + 0 := a2
    omega
  have hold : ∀ x, x < s.heap.size → T0.heap[x]? = s.heap[x]? := fun x hx => by
    rw [Array.getElem?_eq_getElem hx]
    exact same_old X0.same (Array.getElem?_eq_getElem hx)
  have hd : decode (mB M) pc = .ok (.new i, 3) := fetch_new hf (fun _ _ _ _ z => by cases z)
  have hs1 : 0 + 1 ≤ R.cells := by omega
  have hs2 : 0 + n ≤ R.slots := by omega
  suffices key : W p l e R s m args below meth c H [] 0 0 (EQ below q D H0 (.inr mem.length, mem ++ [.inr (ci, [])], w) 1 s) (F0 m pc ls (st.map (tr q))) from key T0 hT0 X0
  refine W.newcK hc.1 hc.2.1 hown (hts _ o3) (hts _ hins) (hts _ hini) rfl hd hs1 hs2 hKn.2.1 rfl (fun H' kC hkC e1 e2 e3 => ?_)
  refine lv_dup hc.1 hc.2.1 (fetch_new h3 (fun _ _ _ _ z => by cases z)) rfl ?_
  intro T2 hT2 X2
  have hH0 : H.size = s.heap.size := by rw [← hT0]; exact hsz
  have hcat : ((st.map (tr q)).map fun v => v.category).sum = (st.map fun v => v.category).sum := by simp [tr_cat, Function.comp_def]
  obtain ⟨U, u1, u2, u3, u4, u5, ce, u6, u7⟩ := X2.ctorThrow0 hc.1 hy.2.1 hown2 p3 (names := exNames) (by decide +kernel) (fun w hw => by
      rcases p4 w hw with h | h
      · exact hts _ h
      · exact stW_args w h (hy.2.2.2.1 w h)) (fun x hx => by cases hx) hKn.2.1 hkC (by rw [hT2]; exact e1) (by omega) (g := F0 m (pc + 4) ls (.ref H.size :: .ref H.size :: st.map (tr q))) rfl (by rw [hc.2.2.1]; exact hls.1) rfl rfl rfl
    (by rw [hc.2.1]; exact fetch_new h4 (fun _ _ _ _ z => by cases z)) (by rw [hc.2.1]; exact fetch_new h7 (fun _ _ _ _ z => by cases z)) (fun x hx' => by rw [hy.1, hx] at hx'; cases hx') (show exNames.length + 3 < R.frames by show 2 + 3 < _; omega)
    (by
      show 2 * 0 + ((Value.ref H.size :: st.map (tr q)).map fun v => v.category).sum + (13 * (2 + 1) + 41) ≤ R.locals
      rw [List.map_cons, List.sum_cons, hcat]
      show 2 * 0 + (1 + _) + _ ≤ _
      omega) hc.2.2.2.2.2.2.2.1
  refine ⟨U, u1, .threw H.size, u2, u3, ?_, ?_, u4, [], ?_, (fun x hx => by cases hx), fun _ => rfl⟩
  · show Outcome.threw H.size = .threw (ad q mem.length)
    rw [hH.size]
  · have hUs : U.heap.size = s.heap.size + 1 := by
      have a1 : U.heap.size ≤ s.heap.size + 1 := u5.2.2.1
      have a2 := (Array.getElem?_eq_some_iff.mp u6).1
      omega
    refine hH.push (by rw [hUs, hH0]) (fun x hx => ?_) ?_
    · have hxs : x < s.heap.size := by omega
      have b1 : U.heap[x]? = some s.heap[x] := same_old u5 (Array.getElem?_eq_getElem hxs)
      rw [b1, ← hT0, hold x hxs, Array.getElem?_eq_getElem hxs]
    · refine ⟨_, o2, by rw [hN0]; rfl, ce, by rw [← hH.size]; exact u6, ?_, u7.vm, ?_⟩
      · exact Option.some.inj (u7.cls.symm.trans hKn.2.1)
      · intro k hk
        dsimp only at hk
        omega
  · exact u5.mono (by omega) (by omega)
end THRNEW
