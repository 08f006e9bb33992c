/-! Rules for runs of the small machine. -/
theorem run_fuel1 : ∀ (f d : Nat) (M : MI) (n0 : Nat) (w : Bool) (pc : Nat) (L : AL) (st : List Value) (mem : AM) (r : RS), run f d M n0 w pc L st mem = some r → run (f + 1) d M n0 w pc L st mem = some r := by
  intro f
  induction f with
  | zero => intro d M n0 w pc L st mem r h; cases h
  | succ f ih =>
    intro d M n0 w pc L st mem r h
    rw [run] at h
    rw [run]
    split at h
    · cases h
    · rename_i i hf
      try rw [hf]
      try dsimp only
      split at h
      · cases h
      · rename_i pc' L' st' mem' h1
        try rw [h1]
        exact ih _ _ _ _ _ _ _ _ _ h
      · rename_i v h1
        try rw [h1]
        exact h
      · rename_i M' as rest h1
        try rw [h1]
        try dsimp only
        split at h
        · cases h
        · rename_i d'
          try dsimp only
          split at h
          · rename_i hc
            try rw [if_pos hc]
            split at h
            · cases h
            · rename_i v mem' w' h2
              rw [ih _ _ _ _ _ _ _ _ _ h2]
              exact ih _ _ _ _ _ _ _ _ _ h
            · rename_i k mem' w' h2
              rw [ih _ _ _ _ _ _ _ _ _ h2]
              try dsimp only
              split at h
              · rename_i ci fs hm
                try rw [hm]
                try dsimp only
                split at h
                · rename_i hx
                  try rw [if_pos hx]
                  exact h
                · rename_i hx
                  try rw [if_neg hx]
                  split at h
                  · cases h
                  · rename_i hp hh
                    try rw [hh]
                    exact ih _ _ _ _ _ _ _ _ _ h
              · cases h
          · cases h
      · rename_i ci h1
        try rw [h1]
        try dsimp only
        split at h
        · rename_i h99
          try rw [if_pos h99]
          split at h
          · rename_i mem' h2
            try rw [h2]
            exact ih _ _ _ _ _ _ _ _ _ h
          · cases h
        · rename_i h99
          try rw [if_neg h99]
          exact h
theorem run_fuel {f g d : Nat} {M : MI} {n0 : Nat} {w : Bool} {pc : Nat} {L : AL} {st : List Value} {mem : AM} {r : RS} (h : run f d M n0 w pc L st mem = some r) (hg : f ≤ g) : run g d M n0 w pc L st mem = some r := by
  obtain ⟨k, rfl⟩ := Nat.exists_eq_add_of_le hg
  clear hg
  induction k with
  | zero => exact h
  | succ k ih => exact run_fuel1 _ _ _ _ _ _ _ _ _ _ ih
/-- from here the method ends with o and mem'; φ: nothing has been written, and nothing is -/
def Rg (φ : Bool) (d : Nat) (M : MI) (n0 pc : Nat) (L : AL) (st : List Value) (mem : AM) (o : Option Value ⊕ Nat) (mem' : AM) : Prop := ∀ w, (φ = true → w = false) → ∃ f w', (φ = true → w' = false) ∧ run f d M n0 w pc L st mem = some (o, mem', w')
/-- a call of M ends with o and mem' -/
def Cg (φ : Bool) (d : Nat) (M : MI) (as : List Value) (mem : AM) (o : Option Value ⊕ Nat) (mem' : AM) : Prop := (lg_sl as).length ≤ mL M ∧ ∃ f w', (φ = true → w' = false) ∧ run f d M mem.length false 0 (lv_args 0 as) [] mem = some (o, mem', w')
theorem Cg.any {φ : Bool} {d : Nat} {M : MI} {as : List Value} {mem : AM} {o : Option Value ⊕ Nat} {mem' : AM} (h : Cg true d M as mem o mem') : Cg φ d M as mem o mem' := by
  obtain ⟨hl, f, w', hw, e⟩ := h
  exact ⟨hl, f, w', fun _ => hw rfl, e⟩
section RG
variable {φ : Bool} {d : Nat} {M : MI} {n0 pc : Nat} {L : AL} {st : List Value} {mem : AM} {o : Option Value ⊕ Nat} {mem' : AM}
theorem Cg.of {as : List Value} (hl : (lg_sl as).length ≤ mL M) (h : Rg φ d M mem.length 0 (lv_args 0 as) [] mem o mem') : Cg φ d M as mem o mem' := ⟨hl, h false (fun _ => rfl)⟩
theorem Rg.step {i : Instr} (pc' : Nat) {L' : AL} {st' : List Value} {mem1 : AM} (hf : fetch M pc = some i) (h1 : one M i pc L st mem = some (.inl (pc', L', st', mem1))) (hw : φ = true → wrs i = false) (k : Rg φ d M n0 pc' L' st' mem1 o mem') : Rg φ d M n0 pc L st mem o mem' := by
  intro w hw0
  obtain ⟨f, w', hw', h⟩ := k (w || wrs i) (fun e => by rw [hw0 e, hw e]; rfl)
  exact ⟨f + 1, w', hw', by rw [run, hf]; dsimp only; rw [h1]; exact h⟩
theorem Rg.ret {i : Instr} {v : Option Value} (hf : fetch M pc = some i) (h1 : one M i pc L st mem = some (.inr (.inl v))) : Rg φ d M n0 pc L st mem (.inl v) mem :=
  fun w hw => ⟨1, w, hw, by rw [run, hf]; dsimp only; rw [h1]⟩
theorem Rg.call {i : Instr} {M' : MI} {as rest : List Value} {v : Option Value} {mem1 : AM} (pc' : Nat) (hf : fetch M pc = some i) (hp : pc + 3 = pc') (h1 : one M i pc L st mem = some (.inr (.inr (.inl (M', as, rest))))) (h8 : (rest.map (fun v => v.category)).sum ≤ 8) (hc : Cg φ d M' as mem (.inl v) mem1) (k : Rg φ (d + 1) M n0 pc' L (v.toList ++ rest) mem1 o mem') : Rg φ (d + 1) M n0 pc L st mem o mem' := by
  subst hp
  intro w hw
  obtain ⟨hl, f1, w1, hw1, e1⟩ := hc
  obtain ⟨f2, w2, hw2, e2⟩ := k (w || w1) (fun e => by rw [hw e, hw1 e]; rfl)
  refine ⟨max f1 f2 + 1, w2, hw2, ?_⟩
  rw [run, hf]
  dsimp only
  rw [h1]
  dsimp only
  rw [if_pos ⟨h8, hl⟩, run_fuel e1 (Nat.le_max_left f1 f2)]
  exact run_fuel e2 (Nat.le_max_right f1 f2)
/-- the callee throws, and nobody here catches -/
theorem Rg.callT {i : Instr} {M' : MI} {as rest : List Value} {k ci : Nat} {fs : List Value} {mem1 : AM} (hf : fetch M pc = some i) (h1 : one M i pc L st mem = some (.inr (.inr (.inl (M', as, rest))))) (h8 : (rest.map (fun v => v.category)).sum ≤ 8) (hc : Cg φ d M' as mem (.inr k) mem1) (hm : mem1[k]? = some (.inr (ci, fs))) (hx : mX M = []) : Rg φ (d + 1) M n0 pc L st mem (.inr k) mem1 := by
  intro w hw
  obtain ⟨hl, f1, w1, hw1, e1⟩ := hc
  refine ⟨f1 + 1, w || w1, fun e => by rw [hw e, hw1 e]; rfl, ?_⟩
  rw [run, hf]
  dsimp only
  rw [h1]
  dsimp only
  rw [if_pos ⟨h8, hl⟩, e1]
  dsimp only
  rw [hm]
  dsimp only
  rw [if_pos hx]
/-- the callee throws, and a handler here catches -/
theorem Rg.callH {i : Instr} {M' : MI} {as rest : List Value} {k ci h : Nat} {fs : List Value} {mem1 : AM} (hf : fetch M pc = some i) (h1 : one M i pc L st mem = some (.inr (.inr (.inl (M', as, rest))))) (h8 : (rest.map (fun v => v.category)).sum ≤ 8) (hc : Cg φ d M' as mem (.inr k) mem1) (hm : mem1[k]? = some (.inr (ci, fs))) (hx : mX M ≠ []) (hh : hnd (mH M) pc ci (mX M) = some h)
    (kk : Rg φ (d + 1) M n0 h L [.ref k] mem1 o mem') : Rg φ (d + 1) M n0 pc L st mem o mem' := by
  intro w hw
  obtain ⟨hl, f1, w1, hw1, e1⟩ := hc
  obtain ⟨f2, w2, hw2, e2⟩ := kk (w || w1) (fun e => by rw [hw e, hw1 e]; rfl)
  refine ⟨max f1 f2 + 1, w2, hw2, ?_⟩
  rw [run, hf]
  dsimp only
  rw [h1]
  dsimp only
  rw [if_pos ⟨h8, hl⟩, run_fuel e1 (Nat.le_max_left f1 f2)]
  dsimp only
  rw [hm]
  dsimp only
  rw [if_neg hx, hh]
  exact run_fuel e2 (Nat.le_max_right f1 f2)
/-- 'throw new' -/
theorem Rg.thr {i j ci : Nat} {rr : vw_C} (hf : fetch M pc = some (.new i)) (h3 : fetch M (pc + 3) = some .dup) (h4 : fetch M (pc + 4) = some (.invokespecial j)) (h7 : fetch M (pc + 7) = some .athrow) (hr : rC (mH M) i = some ci) (hcl : CLs[ci]? = some rr) (h12 : 12 ≤ ci) (hE : rE (mH M) j = some ci) (hx : mX M = []) (hn : n0 = mem.length) (hs : (st.map (fun v => v.category)).sum ≤ 8) :
    Rg true d M n0 pc L st mem (.inr mem.length) (mem ++ [.inr (ci, [])]) := by
  obtain ⟨n, ty, e0, -⟩ := cls_all hcl
  intro w hw
  have hw := hw rfl
  subst hw
  refine ⟨1, false, fun _ => rfl, ?_⟩
  rw [run, hf]
  dsimp only
  have h1 : one M (.new i) pc L st mem = some (.inr (.inr (.inr ci))) := by
    dsimp only [one]
    rw [hr]
    dsimp only
    rw [hcl, e0]
    dsimp only
    rw [if_pos h12]
  rw [h1]
  dsimp only
  rw [if_neg (show ¬ ci = 99 by
    intro z
    rw [z] at hcl
    cases hcl), h3, h4, h7]
  dsimp only
  rw [if_pos ⟨rfl, hn, hx, hE, hs⟩]
theorem run_deep1 : ∀ (f d : Nat) (M : MI) (n0 : Nat) (w : Bool) (pc : Nat) (L : AL) (st : List Value) (mem : AM) (r : RS), run f d M n0 w pc L st mem = some r → run f (d + 1) M n0 w pc L st mem = some r := by
  intro f
  induction f with
  | zero => intro d M n0 w pc L st mem r h; cases h
  | succ f ih =>
    intro d M n0 w pc L st mem r h
    rw [run] at h
    rw [run]
    cases hf : fetch M pc with
    | none => rw [hf] at h; cases h
    | some i =>
      rw [hf] at h
      dsimp only at h ⊢
      cases h1 : one M i pc L st mem with
      | none => rw [h1] at h; cases h
      | some sr =>
        rw [h1] at h
        rcases sr with ⟨pc', L', st', mem'⟩ | v | ⟨M', as, rest⟩ | ci
        · exact ih _ _ _ _ _ _ _ _ _ h
        · exact h
        · dsimp only at h ⊢
          cases d with
          | zero => cases h
          | succ d' =>
            dsimp only at h ⊢
            split at h
            · rename_i hc
              try rw [if_pos hc]
              cases h2 : run f d' M' mem.length false 0 (lv_args 0 as) [] mem with
              | none => rw [h2] at h; cases h
              | some r' =>
                rw [h2] at h
                rw [ih _ _ _ _ _ _ _ _ _ h2]
                rcases r' with ⟨v | k, mem', w'⟩
                · exact ih _ _ _ _ _ _ _ _ _ h
                · dsimp only at h ⊢
                  split at h
                  · rename_i ci fs hm
                    try rw [hm]
                    try dsimp only
                    split at h
                    · rename_i hx
                      try rw [if_pos hx]
                      exact h
                    · rename_i hx
                      try rw [if_neg hx]
                      split at h
                      · cases h
                      · rename_i hp hh
                        try rw [hh]
                        exact ih _ _ _ _ _ _ _ _ _ h
                  · cases h
            · cases h
        · dsimp only at h ⊢
          split at h
          · rename_i h99
            rw [if_pos h99]
            cases h2 : cop M pc st mem with
            | none => rw [h2] at h; cases h
            | some mem' =>
              rw [h2] at h
              exact ih _ _ _ _ _ _ _ _ _ h
          · rename_i h99
            rw [if_neg h99]
            exact h
theorem Cg.deep {as : List Value} {k : Nat} (h : Cg φ d M as mem o mem') (hk : d ≤ k) : Cg φ k M as mem o mem' := by
  obtain ⟨j, rfl⟩ := Nat.exists_eq_add_of_le hk
  clear hk
  induction j with
  | zero => exact h
  | succ j ih =>
    obtain ⟨hl, f, w', hw, e⟩ := ih
    exact ⟨hl, f, w', hw, run_deep1 _ _ _ _ _ _ _ _ _ _ e⟩
end RG
