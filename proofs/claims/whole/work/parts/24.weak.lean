/-! More locals do no harm; their order is of no account. -/
def Lw (L L' : AL) : Prop := (∀ q ∈ L, q ∈ L') ∧ (L'.map (fun q => q.1)).Nodup
theorem lw_get {L' : AL} (hn : (L'.map (fun q => q.1)).Nodup) {i : Nat} {v : Value} (h : (i, v) ∈ L') : lget L' i = some v := by
  unfold lget
  induction L' with
  | nil => cases h
  | cons x r ih =>
    rw [List.map_cons, List.nodup_cons] at hn
    rcases List.mem_cons.mp h with e | h
    · subst e
      simp
    · have hne : ¬ x.1 = i := by
        intro e
        apply hn.1
        rw [e]
        exact List.mem_map.mpr ⟨(i, v), h, rfl⟩
      rw [List.find?_cons_of_neg (by simpa using hne)]
      exact ih hn.2 h
theorem lget_mem {L : AL} {i : Nat} {v : Value} (h : lget L i = some v) : (i, v) ∈ L := by
  unfold lget at h
  cases hf : L.find? (fun q => q.1 == i) with
  | none => rw [hf] at h; cases h
  | some y =>
    rw [hf] at h
    have h2 : y.2 = v := by simpa using h
    have h3 : y.1 = i := by simpa using List.find?_some hf
    have := List.mem_of_find?_eq_some hf
    rw [← h2, ← h3]
    exact this
theorem Lw.get {L L' : AL} (h : Lw L L') {i : Nat} {v : Value} (e : lget L i = some v) : lget L' i = some v := lw_get h.2 (h.1 _ (lget_mem e))
theorem nd_filter {L : AL} (p : Nat × Value → Bool) (h : (L.map (fun q => q.1)).Nodup) : ((L.filter p).map (fun q => q.1)).Nodup := h.sublist (List.filter_sublist.map _)
theorem Lw.put1 {L L' : AL} (h : Lw L L') (i : Nat) (v : Value) : Lw (lput1 L i v) (lput1 L' i v) := by
  refine ⟨fun q hq => ?_, ?_⟩
  · unfold lput1 at hq ⊢
    rcases List.mem_cons.mp hq with e | hq
    · exact List.mem_cons.mpr (Or.inl e)
    · obtain ⟨a, b⟩ := List.mem_filter.mp hq
      exact List.mem_cons.mpr (Or.inr (List.mem_filter.mpr ⟨h.1 _ a, b⟩))
  · unfold lput1
    rw [List.map_cons, List.nodup_cons]
    refine ⟨fun hm => ?_, nd_filter _ h.2⟩
    obtain ⟨y, hy, e⟩ := List.mem_map.mp hm
    have := (List.mem_filter.mp hy).2
    simp [e] at this
theorem Lw.put2 {L L' : AL} (h : Lw L L') (i : Nat) (v : Value) : Lw (lput2 L i v) (lput2 L' i v) := by
  refine ⟨fun q hq => ?_, ?_⟩
  · unfold lput2 at hq ⊢
    rcases List.mem_cons.mp hq with e | hq
    · exact List.mem_cons.mpr (Or.inl e)
    · obtain ⟨a, b⟩ := List.mem_filter.mp hq
      exact List.mem_cons.mpr (Or.inr (List.mem_filter.mpr ⟨h.1 _ a, b⟩))
  · unfold lput2
    rw [List.map_cons, List.nodup_cons]
    refine ⟨fun hm => ?_, nd_filter _ h.2⟩
    obtain ⟨y, hy, e⟩ := List.mem_map.mp hm
    have := (List.mem_filter.mp hy).2
    simp [e] at this
set_option maxHeartbeats 1000000 in
theorem one_weak {M : MI} {i : Instr} {pc : Nat} {L L' : AL} {st : List Value} {mem : AM} (hL : Lw L L') {x : SR} (h : one M i pc L st mem = some x) :
    (∀ pc1 L1 st1 mem1, x = .inl (pc1, L1, st1, mem1) → ∃ L1', Lw L1 L1' ∧ one M i pc L' st mem = some (.inl (pc1, L1', st1, mem1))) ∧ (∀ y, x = .inr y → one M i pc L' st mem = some (.inr y)) := by
  cases i
  case iload k =>
    dsimp only [one, ldI] at h ⊢
    split at h
    · rename_i v hv
      cases h
      refine ⟨fun pc1 L1 st1 mem1 e => ?_, fun y e => by cases e⟩
      cases e
      exact ⟨L', hL, by rw [hL.get hv]; rfl⟩
    · cases h
  case iload_n k =>
    dsimp only [one, ldI] at h ⊢
    split at h
    · rename_i v hv
      cases h
      refine ⟨fun pc1 L1 st1 mem1 e => ?_, fun y e => by cases e⟩
      cases e
      exact ⟨L', hL, by rw [hL.get hv]; rfl⟩
    · cases h
  case lload k =>
    dsimp only [one, ldL] at h ⊢
    split at h
    · rename_i v hv
      cases h
      refine ⟨fun pc1 L1 st1 mem1 e => ?_, fun y e => by cases e⟩
      cases e
      exact ⟨L', hL, by rw [hL.get hv]; rfl⟩
    · cases h
  case lload_n k =>
    dsimp only [one, ldL] at h ⊢
    split at h
    · rename_i v hv
      cases h
      refine ⟨fun pc1 L1 st1 mem1 e => ?_, fun y e => by cases e⟩
      cases e
      exact ⟨L', hL, by rw [hL.get hv]; rfl⟩
    · cases h
  case aload k =>
    dsimp only [one, ldA] at h ⊢
    split at h
    · rename_i v hv
      cases h
      refine ⟨fun pc1 L1 st1 mem1 e => ?_, fun y e => by cases e⟩
      cases e
      exact ⟨L', hL, by rw [hL.get hv]; rfl⟩
    · cases h
  case aload_n k =>
    dsimp only [one, ldA] at h ⊢
    split at h
    · rename_i v hv
      cases h
      refine ⟨fun pc1 L1 st1 mem1 e => ?_, fun y e => by cases e⟩
      cases e
      exact ⟨L', hL, by rw [hL.get hv]; rfl⟩
    · cases h
  case iinc k n =>
    dsimp only [one] at h ⊢
    split at h
    · rename_i v hv
      split at h
      · rename_i hk
        cases h
        refine ⟨fun pc1 L1 st1 mem1 e => ?_, fun y e => by cases e⟩
        cases e
        exact ⟨_, hL.put1 _ _, by rw [hL.get hv]; dsimp only; rw [if_pos hk]; rfl⟩
      · cases h
    · cases h
  case istore k =>
    dsimp only [one, stI] at h ⊢
    split at h
    · split at h
      · rename_i hk
        cases h
        refine ⟨fun pc1 L1 st1 mem1 e => ?_, fun y e => by cases e⟩
        cases e
        exact ⟨_, hL.put1 _ _, by rw [if_pos hk]; rfl⟩
      · cases h
    · cases h
  case istore_n k =>
    dsimp only [one, stI] at h ⊢
    split at h
    · split at h
      · rename_i hk
        cases h
        refine ⟨fun pc1 L1 st1 mem1 e => ?_, fun y e => by cases e⟩
        cases e
        exact ⟨_, hL.put1 _ _, by rw [if_pos hk]; rfl⟩
      · cases h
    · cases h
  case astore k =>
    dsimp only [one, stA] at h ⊢
    split at h
    · split at h
      · rename_i hk
        cases h
        refine ⟨fun pc1 L1 st1 mem1 e => ?_, fun y e => by cases e⟩
        cases e
        exact ⟨_, hL.put1 _ _, by rw [if_pos hk]; rfl⟩
      · cases h
    · cases h
  case astore_n k =>
    dsimp only [one, stA] at h ⊢
    split at h
    · split at h
      · rename_i hk
        cases h
        refine ⟨fun pc1 L1 st1 mem1 e => ?_, fun y e => by cases e⟩
        cases e
        exact ⟨_, hL.put1 _ _, by rw [if_pos hk]; rfl⟩
      · cases h
    · cases h
  case lstore k =>
    dsimp only [one, stL] at h ⊢
    split at h
    · split at h
      · rename_i hk
        cases h
        refine ⟨fun pc1 L1 st1 mem1 e => ?_, fun y e => by cases e⟩
        cases e
        exact ⟨_, hL.put2 _ _, by rw [if_pos hk]; rfl⟩
      · cases h
    · cases h
  case lstore_n k =>
    dsimp only [one, stL] at h ⊢
    split at h
    · split at h
      · rename_i hk
        cases h
        refine ⟨fun pc1 L1 st1 mem1 e => ?_, fun y e => by cases e⟩
        cases e
        exact ⟨_, hL.put2 _ _, by rw [if_pos hk]; rfl⟩
      · cases h
    · cases h
  all_goals (
    refine ⟨fun pc1 L1 st1 mem1 e => ⟨L', ?_⟩, fun y e => ?_⟩ <;> subst e <;> revert h <;> dsimp only [one, i2, l2, aLd, aSt, jmp, go] <;> (repeat' split) <;> intro h <;> first
      | (cases h; done)
      | (cases h; exact ⟨hL, rfl⟩)
      | (cases h; rfl)
      | exact h)
theorem run_weak : ∀ (f d : Nat) (M : MI) (n0 : Nat) (w : Bool) (pc : Nat) (L L' : AL) (st : List Value) (mem : AM) (r : RS), Lw L L' → run f d M n0 w pc L st mem = some r → run f d M n0 w pc L' st mem = some r := by
  intro f
  induction f with
  | zero => intro d M n0 w pc L L' st mem r _ h; cases h
  | succ f ih =>
    intro d M n0 w pc L L' st mem r hL h
    rw [run] at h
    rw [run]
    cases hf : fetch M pc with
    | none => rw [hf] at h; cases h
    | some i =>
      rw [hf] at h
      dsimp only at h ⊢
      cases h1 : one M i pc L st mem with
      | none => rw [h1] at h; cases h
      | some sr =>
        rw [h1] at h
        obtain ⟨w1, w2⟩ := one_weak hL h1
        rcases sr with ⟨pc', L1, st', mem'⟩ | y
        · obtain ⟨L1', a1, a2⟩ := w1 _ _ _ _ rfl
          rw [a2]
          exact ih _ _ _ _ _ _ _ _ _ _ a1 h
        · rw [w2 y rfl]
          rcases y with v | ⟨M', as, rest⟩ | ci
          · exact h
          · dsimp only at h ⊢
            cases d with
            | zero => cases h
            | succ d' =>
              dsimp only at h ⊢
              split at h
              · rename_i hc
                try rw [if_pos hc]
                cases h2 : run f d' M' mem.length false 0 (lv_args 0 as) [] mem with
                | none => rw [h2] at h; cases h
                | some r' =>
                  rw [h2] at h
                  rcases r' with ⟨v | k, mem', w'⟩
                  · exact ih _ _ _ _ _ _ _ _ _ _ hL h
                  · dsimp only at h ⊢
                    split at h
                    · rename_i ci fs hm
                      try rw [hm]
                      try dsimp only
                      split at h
                      · rename_i hx
                        try rw [if_pos hx]
                        exact h
                      · rename_i hx
                        try rw [if_neg hx]
                        split at h
                        · cases h
                        · rename_i hp hh
                          try rw [hh]
                          exact ih _ _ _ _ _ _ _ _ _ _ hL h
                    · cases h
              · cases h
          · dsimp only at h ⊢
            split at h
            · rename_i h99
              rw [if_pos h99]
              cases h2 : cop M pc st mem with
              | none => rw [h2] at h; cases h
              | some mem' =>
                rw [h2] at h
                exact ih _ _ _ _ _ _ _ _ _ _ hL h
            · rename_i h99
              rw [if_neg h99]
              exact h
theorem Rg.weak {φ : Bool} {d : Nat} {M : MI} {n0 pc : Nat} {L L' : AL} {st : List Value} {mem : AM} {o : Option Value ⊕ Nat} {mem' : AM} (h : Rg φ d M n0 pc L st mem o mem') (hs : ∀ q ∈ L, q ∈ L') (hn : (L'.map (fun q => q.1)).Nodup) : Rg φ d M n0 pc L' st mem o mem' := by
  intro w hw
  obtain ⟨f, w', hw', e⟩ := h w hw
  exact ⟨f, w', hw', run_weak _ _ _ _ _ _ _ _ _ _ _ ⟨hs, hn⟩ e⟩
/-! Cells behind writes. -/
theorem gs_ne {mem : AM} {a b : Nat} {c x : AC} (h : mem[b]? = some c) (hn : a ≠ b) : (mem.set a x)[b]? = some c := by rw [List.getElem?_set_ne hn]; exact h
theorem gs_eq {mem : AM} {a : Nat} {c x : AC} (h : mem[a]? = some c) : (mem.set a x)[a]? = some x := List.getElem?_set_self (List.getElem?_eq_some_iff.mp h).1
theorem ga {mem xs : AM} {b : Nat} {c : AC} (h : mem[b]? = some c) : (mem ++ xs)[b]? = some c := by rw [List.getElem?_append_left (List.getElem?_eq_some_iff.mp h).1]; exact h
theorem ne_k {mem : AM} {a b : Nat} {x : Nat × List Value} {y : FieldType × List Value} (h1 : mem[a]? = some (.inr x)) (h2 : mem[b]? = some (.inl y)) : a ≠ b := by
  intro e
  subst e
  rw [h1] at h2
  cases h2
