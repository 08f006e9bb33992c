/-- what is known of the start beside the tables: the low heap, statics, kinds that are no kin -/
def stW : List Cond := [.laysStatic Bundle.tN "UNASSIGNED_STACK" Bundle.steD, .laysStatic Bundle.tN "SUPPRESSED_SENTINEL" Bundle.listD, .isRef (.static Bundle.tN "UNASSIGNED_STACK" Bundle.steD), .isRef (.static Bundle.tN "SUPPRESSED_SENTINEL" Bundle.listD)]
def stN : List (String × String × String) := [(Bundle.tN, "UNASSIGNED_STACK", Bundle.steD), (Bundle.tN, "SUPPRESSED_SENTINEL", Bundle.listD)]
def exN : List (String × String) := [("java/lang/IllegalArgumentException", "java/lang/IndexOutOfBoundsException"), ("java/lang/IllegalArgumentException", "java/lang/IllegalStateException"), ("java/lang/IndexOutOfBoundsException", "java/lang/IllegalArgumentException"), ("java/lang/IndexOutOfBoundsException", "java/lang/IllegalStateException"), ("java/lang/IllegalStateException", "java/lang/IllegalArgumentException"), ("java/lang/IllegalStateException", "java/lang/IndexOutOfBoundsException")]
def KX (q : AQ) (H0 : Heap) (s : State) : Prop := (∀ x, x < q.2.2 → s.heap[x]? = H0[x]?) ∧ (∀ w ∈ stW, w.before #[] s = true) ∧ (∀ t ∈ stN, ∀ c k i f a, s.fieldFound? t.1 t.2.1 t.2.2 = some (c, k, i, f) → k.statics = some a → a < q.2.2) ∧ (∀ t ∈ exN, va_Nc t.1 t.2 s) ∧ va_Z "java/util/ArrayList" "DEFAULTCAPACITY_EMPTY_ELEMENTDATA" "[Ljava/lang/Object;" (.ref q.2.1) (fun x => q.2.2 ≤ x) s H0 ∧ ∃ mi, va_Mi "[Ljava/lang/Object;" mi s
theorem st_lays {C n d : String} {s U : State} {b : Nat} (hW : s.vm.Alike U.vm) (hl : ∀ x, x < b → U.heap[x]? = s.heap[x]?) (hb : ∀ c k i f a, s.fieldFound? C n d = some (c, k, i, f) → k.statics = some a → a < b) (h : (Cond.laysStatic C n d).before #[] s = true) : (Cond.laysStatic C n d).before #[] U = true := by
  obtain ⟨c, k, i, f, a, cell, hc, hi, hst, ha, hcell, hs, hcls, hlt, hty⟩ := Cond.laysStatic_spec h
  obtain ⟨k', hi', he⟩ := State.fieldFound?_setVm hW hi
  have h1 : U.fieldFound? C n d = some (c, k', i, f) := hi'
  have h2 : U.heap[a]? = some cell := by rw [hl a (hb _ _ _ _ _ hi ha)]; exact hcell
  have h3 : U.vm.findClass C = some c := by rw [hW.findClass]; exact hc
  have h4 : k'.statics = some a := by rw [he]; exact ha
  have h5 : k'.staticTypes[f.slot]? = some f.type := by rw [he]; exact hty
  simp [Cond.before, Cond.holds, Cond.value, h1, h3, h4, h2, hst, hs, hcls, hlt, h5]
theorem st_ref {C n d : String} {s U : State} {b : Nat} (hW : s.vm.Alike U.vm) (hl : ∀ x, x < b → U.heap[x]? = s.heap[x]?) (hb : ∀ c k i f a, s.fieldFound? C n d = some (c, k, i, f) → k.statics = some a → a < b) (h0 : (Cond.laysStatic C n d).before #[] s = true) (h : (Cond.isRef (.static C n d)).before #[] s = true) : (Cond.isRef (.static C n d)).before #[] U = true := by
  obtain ⟨c, k, i, f, a, cell, hc, hi, hst, ha, hcell, hs, hcls, hlt, hty⟩ := Cond.laysStatic_spec h0
  obtain ⟨k', hi', he⟩ := State.fieldFound?_setVm hW hi
  have h1 : U.fieldFound? C n d = some (c, k', i, f) := hi'
  have h2 : U.heap[a]? = some cell := by rw [hl a (hb _ _ _ _ _ hi ha)]; exact hcell
  have h4 : k'.statics = some a := by rw [he]; exact ha
  have e1 : (Term.static C n d).eval #[] s none [] s = cell.slots[f.slot]? := by
    simp [Term.eval, State.fieldNamed?, hi, hst, ha, hcell, hs]
  have e2 : (Term.static C n d).eval #[] U none [] U = cell.slots[f.slot]? := by
    simp [Term.eval, State.fieldNamed?, h1, hst, h4, h2, hs]
  simp only [Cond.before, Cond.holds, Cond.value, e1] at h
  simp only [Cond.before, Cond.holds, Cond.value, e2]
  exact h
theorem KX.moved {q : AQ} {H0 : Heap} {s U : State} (h : KX q H0 s) (hW : s.vm.Alike U.vm) (hl : ∀ x, x < q.2.2 → U.heap[x]? = H0[x]?) : KX q H0 U := by
  obtain ⟨h1, h2, h3, h4, h5, mi, h6⟩ := h
  have hls : ∀ x, x < q.2.2 → U.heap[x]? = s.heap[x]? := fun x hx => by rw [hl x hx, h1 x hx]
  have a1 := h2 _ (show stW[0] ∈ stW by simp [stW])
  have a2 := h2 _ (show stW[1] ∈ stW by simp [stW])
  have a3 := h2 _ (show stW[2] ∈ stW by simp [stW])
  have a4 := h2 _ (show stW[3] ∈ stW by simp [stW])
  have b1 := h3 _ (show stN[0] ∈ stN by simp [stN])
  have b2 := h3 _ (show stN[1] ∈ stN by simp [stN])
  refine ⟨hl, ?_, ?_, fun t ht => va_Nc.moved hW (h4 t ht), va_Z.moved hW h5, mi, va_Mi.moved hW h6⟩
  · intro w hw
    simp only [stW, List.mem_cons, List.not_mem_nil, or_false] at hw
    rcases hw with rfl | rfl | rfl | rfl
    · exact st_lays hW hls b1 a1
    · exact st_lays hW hls b2 a2
    · exact st_ref hW hls b1 a1 a3
    · exact st_ref hW hls b2 a2 a4
  · intro t ht c k i f a hf ha
    obtain ⟨k', hi', he⟩ := State.fieldFound?_setVm (s := U) (vm' := s.vm) hW.symm hf
    have hi2 : s.fieldFound? t.1 t.2.1 t.2.2 = some (c, k', i, f) := hi'
    exact h3 t ht c k' i f a hi2 (by rw [he]; exact ha)
