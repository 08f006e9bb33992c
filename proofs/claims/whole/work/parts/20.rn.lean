/-! Rules for runs of the small machine. -/
theorem run_fuel1 : ∀ (f d : Nat) (M : MI) (n0 : Nat) (w : Bool) (pc : Nat) (L : AL) (st : List Value) (mem : AM) (r : RS), run f d M n0 w pc L st mem = some r → run (f + 1) d M n0 w pc L st mem = some r := by
  intro f
  induction f with
  | zero => intro d M n0 w pc L st mem r h; cases h
  | succ f ih =>
    intro d M n0 w pc L st mem r h
    rw [run] at h
    rw [run]
    split at h
    · cases h
    · rename_i i hf
      try rw [hf]
      try dsimp only
      split at h
      · cases h
      · rename_i pc' L' st' mem' h1
        try rw [h1]
        exact ih _ _ _ _ _ _ _ _ _ h
      · rename_i v h1
        try rw [h1]
        exact h
      · rename_i M' as rest h1
        try rw [h1]
        try dsimp only
        split at h
        · cases h
        · rename_i d'
          try dsimp only
          split at h
          · rename_i hc
            try rw [if_pos hc]
            split at h
            · cases h
            · rename_i v mem' w' h2
              rw [ih _ _ _ _ _ _ _ _ _ h2]
              exact ih _ _ _ _ _ _ _ _ _ h
            · rename_i k mem' w' h2
              rw [ih _ _ _ _ _ _ _ _ _ h2]
              try dsimp only
              split at h
              · rename_i ci fs hm
                try rw [hm]
                try dsimp only
                split at h
                · rename_i hx
                  try rw [if_pos hx]
                  exact h
                · rename_i hx
                  try rw [if_neg hx]
                  split at h
                  · cases h
                  · rename_i hp hh
                    try rw [hh]
                    exact ih _ _ _ _ _ _ _ _ _ h
              · cases h
          · cases h
      · rename_i ci h1
        try rw [h1]
        exact h
theorem run_fuel {f g d : Nat} {M : MI} {n0 : Nat} {w : Bool} {pc : Nat} {L : AL} {st : List Value} {mem : AM} {r : RS} (h : run f d M n0 w pc L st mem = some r) (hg : f ≤ g) : run g d M n0 w pc L st mem = some r := by
  obtain ⟨k, rfl⟩ := Nat.exists_eq_add_of_le hg
  clear hg
  induction k with
  | zero => exact h
  | succ k ih => exact run_fuel1 _ _ _ _ _ _ _ _ _ _ ih
/-- from here the method ends with o and mem' -/
def Rn (d : Nat) (M : MI) (n0 pc : Nat) (L : AL) (st : List Value) (mem : AM) (o : Option Value ⊕ Nat) (mem' : AM) : Prop := ∀ w, ∃ f w', run f d M n0 w pc L st mem = some (o, mem', w')
/-- the same where nothing has been written, and nothing is -/
def Rf (d : Nat) (M : MI) (n0 pc : Nat) (L : AL) (st : List Value) (mem : AM) (o : Option Value ⊕ Nat) (mem' : AM) : Prop := ∃ f, run f d M n0 false pc L st mem = some (o, mem', false)
/-- a call of M ends with o and mem' -/
def Cl (d : Nat) (M : MI) (as : List Value) (mem : AM) (o : Option Value ⊕ Nat) (mem' : AM) : Prop := (lg_sl as).length ≤ mL M ∧ ∃ f w', run f d M mem.length false 0 (lv_args 0 as) [] mem = some (o, mem', w')
def Cf (d : Nat) (M : MI) (as : List Value) (mem : AM) (o : Option Value ⊕ Nat) (mem' : AM) : Prop := (lg_sl as).length ≤ mL M ∧ ∃ f, run f d M mem.length false 0 (lv_args 0 as) [] mem = some (o, mem', false)
theorem Cf.cl {d : Nat} {M : MI} {as : List Value} {mem : AM} {o : Option Value ⊕ Nat} {mem' : AM} (h : Cf d M as mem o mem') : Cl d M as mem o mem' := ⟨h.1, h.2.choose, false, h.2.choose_spec⟩
section RN
variable {d : Nat} {M : MI} {n0 pc : Nat} {L : AL} {st : List Value} {mem : AM} {o : Option Value ⊕ Nat} {mem' : AM}
theorem Cl.of {as : List Value} (hl : (lg_sl as).length ≤ mL M) (h : Rn d M mem.length 0 (lv_args 0 as) [] mem o mem') : Cl d M as mem o mem' := ⟨hl, h false⟩
theorem Cf.of {as : List Value} (hl : (lg_sl as).length ≤ mL M) (h : Rf d M mem.length 0 (lv_args 0 as) [] mem o mem') : Cf d M as mem o mem' := ⟨hl, h⟩
theorem Rn.step {i : Instr} (pc' : Nat) {L' : AL} {st' : List Value} {mem1 : AM} (hf : fetch M pc = some i) (h1 : one M i pc L st mem = some (.inl (pc', L', st', mem1))) (k : Rn d M n0 pc' L' st' mem1 o mem') : Rn d M n0 pc L st mem o mem' := by
  intro w
  obtain ⟨f, w', h⟩ := k (w || wrs i)
  exact ⟨f + 1, w', by rw [run, hf]; dsimp only; rw [h1]; exact h⟩
theorem Rf.step {i : Instr} (pc' : Nat) {L' : AL} {st' : List Value} {mem1 : AM} (hf : fetch M pc = some i) (h1 : one M i pc L st mem = some (.inl (pc', L', st', mem1))) (hw : wrs i = false) (k : Rf d M n0 pc' L' st' mem1 o mem') : Rf d M n0 pc L st mem o mem' := by
  obtain ⟨f, h⟩ := k
  exact ⟨f + 1, by rw [run, hf]; dsimp only; rw [h1]; dsimp only; rw [hw]; exact h⟩
theorem Rn.ret {i : Instr} {v : Option Value} (hf : fetch M pc = some i) (h1 : one M i pc L st mem = some (.inr (.inl v))) : Rn d M n0 pc L st mem (.inl v) mem :=
  fun w => ⟨1, w, by rw [run, hf]; dsimp only; rw [h1]⟩
theorem Rf.ret {i : Instr} {v : Option Value} (hf : fetch M pc = some i) (h1 : one M i pc L st mem = some (.inr (.inl v))) : Rf d M n0 pc L st mem (.inl v) mem :=
  ⟨1, by rw [run, hf]; dsimp only; rw [h1]⟩
theorem Rn.call {i : Instr} {M' : MI} {as rest : List Value} {v : Option Value} {mem1 : AM} (hf : fetch M pc = some i) (h1 : one M i pc L st mem = some (.inr (.inr (.inl (M', as, rest))))) (h8 : (rest.map (fun v => v.category)).sum ≤ 8) (hc : Cl d M' as mem (.inl v) mem1) (k : Rn (d + 1) M n0 (pc + 3) L (v.toList ++ rest) mem1 o mem') : Rn (d + 1) M n0 pc L st mem o mem' := by
  intro w
  obtain ⟨hl, f1, w1, e1⟩ := hc
  obtain ⟨f2, w2, e2⟩ := k (w || w1)
  refine ⟨max f1 f2 + 1, w2, ?_⟩
  rw [run, hf]
  dsimp only
  rw [h1]
  dsimp only
  rw [if_pos ⟨h8, hl⟩, run_fuel e1 (Nat.le_max_left f1 f2)]
  exact run_fuel e2 (Nat.le_max_right f1 f2)
theorem Rf.call {i : Instr} {M' : MI} {as rest : List Value} {v : Option Value} {mem1 : AM} (hf : fetch M pc = some i) (h1 : one M i pc L st mem = some (.inr (.inr (.inl (M', as, rest))))) (h8 : (rest.map (fun v => v.category)).sum ≤ 8) (hc : Cf d M' as mem (.inl v) mem1) (k : Rf (d + 1) M n0 (pc + 3) L (v.toList ++ rest) mem1 o mem') : Rf (d + 1) M n0 pc L st mem o mem' := by
  obtain ⟨hl, f1, e1⟩ := hc
  obtain ⟨f2, e2⟩ := k
  refine ⟨max f1 f2 + 1, ?_⟩
  rw [run, hf]
  dsimp only
  rw [h1]
  dsimp only
  rw [if_pos ⟨h8, hl⟩, run_fuel e1 (Nat.le_max_left f1 f2)]
  exact run_fuel e2 (Nat.le_max_right f1 f2)
/-- the callee throws, and nobody here catches -/
theorem Rn.callT {i : Instr} {M' : MI} {as rest : List Value} {k ci : Nat} {fs : List Value} {mem1 : AM} (hf : fetch M pc = some i) (h1 : one M i pc L st mem = some (.inr (.inr (.inl (M', as, rest))))) (h8 : (rest.map (fun v => v.category)).sum ≤ 8) (hc : Cl d M' as mem (.inr k) mem1) (hm : mem1[k]? = some (.inr (ci, fs))) (hx : mX M = []) : Rn (d + 1) M n0 pc L st mem (.inr k) mem1 := by
  intro w
  obtain ⟨hl, f1, w1, e1⟩ := hc
  refine ⟨f1 + 1, w || w1, ?_⟩
  rw [run, hf]
  dsimp only
  rw [h1]
  dsimp only
  rw [if_pos ⟨h8, hl⟩, e1]
  dsimp only
  rw [hm]
  dsimp only
  rw [if_pos hx]
theorem Rf.callT {i : Instr} {M' : MI} {as rest : List Value} {k ci : Nat} {fs : List Value} {mem1 : AM} (hf : fetch M pc = some i) (h1 : one M i pc L st mem = some (.inr (.inr (.inl (M', as, rest))))) (h8 : (rest.map (fun v => v.category)).sum ≤ 8) (hc : Cf d M' as mem (.inr k) mem1) (hm : mem1[k]? = some (.inr (ci, fs))) (hx : mX M = []) : Rf (d + 1) M n0 pc L st mem (.inr k) mem1 := by
  obtain ⟨hl, f1, e1⟩ := hc
  refine ⟨f1 + 1, ?_⟩
  rw [run, hf]
  dsimp only
  rw [h1]
  dsimp only
  rw [if_pos ⟨h8, hl⟩, e1]
  dsimp only
  rw [hm]
  dsimp only
  rw [if_pos hx]
  rfl
/-- the callee throws, and a handler here catches -/
theorem Rn.callH {i : Instr} {M' : MI} {as rest : List Value} {k ci h : Nat} {fs : List Value} {mem1 : AM} (hf : fetch M pc = some i) (h1 : one M i pc L st mem = some (.inr (.inr (.inl (M', as, rest))))) (h8 : (rest.map (fun v => v.category)).sum ≤ 8) (hc : Cl d M' as mem (.inr k) mem1) (hm : mem1[k]? = some (.inr (ci, fs))) (hx : mX M ≠ []) (hh : hnd (mH M) pc ci (mX M) = some h)
    (kk : Rn (d + 1) M n0 h L [.ref k] mem1 o mem') : Rn (d + 1) M n0 pc L st mem o mem' := by
  intro w
  obtain ⟨hl, f1, w1, e1⟩ := hc
  obtain ⟨f2, w2, e2⟩ := kk (w || w1)
  refine ⟨max f1 f2 + 1, w2, ?_⟩
  rw [run, hf]
  dsimp only
  rw [h1]
  dsimp only
  rw [if_pos ⟨h8, hl⟩, run_fuel e1 (Nat.le_max_left f1 f2)]
  dsimp only
  rw [hm]
  dsimp only
  rw [if_neg hx, hh]
  exact run_fuel e2 (Nat.le_max_right f1 f2)
/-- 'throw new' -/
theorem Rf.thr {i j ci : Nat} {rr : vw_C} (hf : fetch M pc = some (.new i)) (h3 : fetch M (pc + 3) = some .dup) (h4 : fetch M (pc + 4) = some (.invokespecial j)) (h7 : fetch M (pc + 7) = some .athrow) (hr : rC (mH M) i = some ci) (hcl : CLs[ci]? = some rr) (h12 : 12 ≤ ci) (hE : rE (mH M) j = some ci) (hx : mX M = []) (hn : n0 = mem.length) (hs : (st.map (fun v => v.category)).sum ≤ 8) :
    Rf d M n0 pc L st mem (.inr mem.length) (mem ++ [.inr (ci, [])]) := by
  obtain ⟨n, ty, e0, -⟩ := cls_all hcl
  refine ⟨1, ?_⟩
  rw [run, hf]
  dsimp only
  have h1 : one M (.new i) pc L st mem = some (.inr (.inr (.inr ci))) := by
    dsimp only [one]
    rw [hr]
    dsimp only
    rw [hcl, e0]
    dsimp only
    rw [if_pos h12]
  rw [h1]
  dsimp only
  rw [h3, h4, h7]
  dsimp only
  rw [if_pos ⟨rfl, hn, hx, hE, hs⟩]
end RN
