/-! From the small machine's run of the law to the claim. -/
def m_Law : MI := (x, code, 8, ret, 0, false, [])
def mem0 (L : Nat) (xs : Nat → Int32) : AM := [.inl (.int, (List.range L).map (fun j => .int (xs j))), .inl (.object "java/lang/Object", [])]
/-- what is left: the law, run by the small machine, answers 1 -/
def PURE : Prop := ∀ (L : Nat) (xs : Nat → Int32), L ≤ 2560 → ∃ (f d : Nat) (mem : AM) (w : Bool), d ≤ 40 ∧ mem.length ≤ 72000 ∧ run f d m_Law 2 false 0 [(0, .ref 0)] [] (mem0 L xs) = some (.inl (some (.int 1)), mem, w)
theorem known {s : State} {args : Array Value} (hts : ∀ w ∈ lw_t2, w.before args s = true) : ∃ D : va_G, va_K D CLs [] s := by
  have h1 : ∀ ci : Nat, ∃ z : ClassId × (Nat → Nat), ∀ r, CLs[ci]? = some r → u_Kn s r.1 r.2.1 r.2.2 z.1 z.2 := by
    intro ci
    cases hr : CLs[ci]? with
    | none => exact ⟨(0, fun _ => 0), fun r h => by cases h⟩
    | some r =>
      obtain ⟨n, ty, e0, k0, hin, hty, hnm, hins, -⟩ := cls_all hr
      obtain ⟨cC, iS, h⟩ := u_known hts hin (hts _ hins)
      exact ⟨(cC, iS), fun r' h' => by cases h'; exact h⟩
  refine ⟨(fun ci => (Classical.choose (h1 ci)).1, fun ci => (Classical.choose (h1 ci)).2), fun ci r hr => Classical.choose_spec (h1 ci) r hr, fun k z hz => by cases hz⟩
theorem forget_new {s t : State} {L : List Loc} {k n k' n' : Nat} (h : s.sameButNew t L k n) (hL : ∀ x ∈ L, s.heap.size ≤ x.base) (hk : k ≤ k') (hn : n ≤ n') : s.sameButNew t [] k' n' := by
  obtain ⟨a1, a2, a3, a4, a5, a6⟩ := h
  refine ⟨a1, a2, by omega, a4, by omega, fun a c hc => ?_⟩
  obtain ⟨c', b1, b2, b3, b4⟩ := a6 a c hc
  refine ⟨c', b1, b2, b3, fun i _ => b4 i (fun hm => ?_)⟩
  have := hL _ hm
  have hlt := (Array.getElem?_eq_some_iff.mp hc).1
  dsimp only at this
  omega
theorem no_traces {l : Launch} (hfl : l.flags = flags0) (e : Env) (h : l.admits e) : e.platform.stackTraces = false := by
  have h1 : e.platform.stackTraces = l.stackTraces := by rw [h.platform]
  rw [h1]
  unfold Launch.stackTraces
  rw [hfl]
  decide +kernel
