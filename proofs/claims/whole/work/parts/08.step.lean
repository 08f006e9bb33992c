/-! A step of the small machine is a step of the machine. -/
section STEP
variable {p : Program} {l : Launch} {e : Env} {R : Room} {s : State} {m : MethodId} {args : Array Value} {below : List Frame} {meth : Method} {c : Code}
/-- what is known while a method is walked -/
def Cx (p : Program) (e : Env) (s : State) (m : MethodId) (args : Array Value) (meth : Method) (c : Code) (D : va_G) (M : MI) : Prop :=
  p.tables.exec = Jvm.exec ∧ c.code = mB M ∧ c.maxLocals = mL M ∧ meth.sig.returnType = mR M ∧ s.vm.findClass (mY M).cls = some m.cls ∧ (∀ w ∈ lw_t2, w.before args s = true) ∧ va_K D CLs [] s ∧ meth.locks = false ∧ (mI M = true → meth.name = "<init>") ∧ homes[mH M]? = some (mY M).cls
def GG (p : Program) (l : Launch) (e : Env) (R : Room) (s : State) (m : MethodId) (args : Array Value) (below : List Frame) (meth : Method) (c : Code) (q : AQ) (D : va_G) (H0 : Heap) (M : MI) (n0 : Nat) (Q : State → Prop) (w : Bool) (pc : Nat) (L : AL) (st : List Value) (mem : AM) : Prop :=
  ∀ (H : Heap) (locs : List Loc) (ls : Array Slot), HR q D s H0 mem H → (∀ x ∈ locs, q.2.2 ≤ x.base) → (w = false → locs = []) → lv_has ls (mL M) (trL q L) →
    W p l e R s m args below meth c H locs (mem.length - n0) (100 * (mem.length - n0)) Q (F0 m pc ls (st.map (tr q)))
variable {q : AQ} {D : va_G} {H0 : Heap} {M : MI} {n0 : Nat} {Q : State → Prop} {w : Bool} {pc : Nat} {L : AL} {st : List Value} {mem : AM} {pc' : Nat} {L' : AL} {st' : List Value} {mem' : AM}
theorem w0 {w : Bool} {locs : List Loc} (h : w = false → locs = []) : (w || false) = false → locs = [] := fun e => h (by simpa using e)
theorem gg_ldI {i len : Nat} (h1 : ldI i len pc L st mem = some (.inl (pc', L', st', mem')))
    (k : GG p l e R s m args below meth c q D H0 M n0 Q (w || false) pc' L' st' mem')
    (row : ∀ {H : Heap} {locs : List Loc} {ls : Array Slot} {x : Int32}, ls[i]? = some (.val (.int x)) → W p l e R s m args below meth c H locs (mem.length - n0) (100 * (mem.length - n0)) Q (F0 m (pc + len) ls (.int x :: st.map (tr q))) → W p l e R s m args below meth c H locs (mem.length - n0) (100 * (mem.length - n0)) Q (F0 m pc ls (st.map (tr q)))) :
    GG p l e R s m args below meth c q D H0 M n0 Q w pc L st mem := by
  intro H locs ls hH hl hw hls
  unfold ldI at h1
  split at h1
  · rename_i x hx
    cases h1
    exact row (lget_has hls hx) (k H locs ls hH hl (w0 hw) hls)
  · cases h1
theorem gg_ldL {i len : Nat} (h1 : ldL i len pc L st mem = some (.inl (pc', L', st', mem')))
    (k : GG p l e R s m args below meth c q D H0 M n0 Q (w || false) pc' L' st' mem')
    (row : ∀ {H : Heap} {locs : List Loc} {ls : Array Slot} {x : Int64}, ls[i]? = some (.val (.long x)) → W p l e R s m args below meth c H locs (mem.length - n0) (100 * (mem.length - n0)) Q (F0 m (pc + len) ls (.long x :: st.map (tr q))) → W p l e R s m args below meth c H locs (mem.length - n0) (100 * (mem.length - n0)) Q (F0 m pc ls (st.map (tr q)))) :
    GG p l e R s m args below meth c q D H0 M n0 Q w pc L st mem := by
  intro H locs ls hH hl hw hls
  unfold ldL at h1
  split at h1
  · rename_i x hx
    cases h1
    exact row (lget_has hls hx) (k H locs ls hH hl (w0 hw) hls)
  · cases h1
theorem gg_ldA {i len : Nat} (h1 : ldA i len pc L st mem = some (.inl (pc', L', st', mem')))
    (k : GG p l e R s m args below meth c q D H0 M n0 Q (w || false) pc' L' st' mem')
    (row : ∀ {H : Heap} {locs : List Loc} {ls : Array Slot} {x : Nat}, ls[i]? = some (.val (.ref x)) → W p l e R s m args below meth c H locs (mem.length - n0) (100 * (mem.length - n0)) Q (F0 m (pc + len) ls (.ref x :: st.map (tr q))) → W p l e R s m args below meth c H locs (mem.length - n0) (100 * (mem.length - n0)) Q (F0 m pc ls (st.map (tr q)))) :
    GG p l e R s m args below meth c q D H0 M n0 Q w pc L st mem := by
  intro H locs ls hH hl hw hls
  unfold ldA at h1
  split at h1
  · rename_i x hx
    cases h1
    exact row (lget_has hls hx) (k H locs ls hH hl (w0 hw) hls)
  · cases h1
theorem gg_stI {i len : Nat} (h1 : stI (mL M) i len pc L st mem = some (.inl (pc', L', st', mem')))
    (k : GG p l e R s m args below meth c q D H0 M n0 Q (w || false) pc' L' st' mem')
    (row : ∀ {H : Heap} {locs : List Loc} {ls : Array Slot} {x : Int32} {rest : List Value} {lv lv' : AL}, lv_has ls (mL M) lv → i < mL M → (i, Value.int x) :: lv.filter (fun q => !(q.1 == i) && !(q.1 + 1 == i && q.2.category == 2)) = lv' → (∀ ls' : Array Slot, lv_has ls' (mL M) lv' → W p l e R s m args below meth c H locs (mem.length - n0) (100 * (mem.length - n0)) Q (F0 m (pc + len) ls' rest)) → W p l e R s m args below meth c H locs (mem.length - n0) (100 * (mem.length - n0)) Q (F0 m pc ls (.int x :: rest))) :
    GG p l e R s m args below meth c q D H0 M n0 Q w pc L st mem := by
  intro H locs ls hH hl hw hls
  unfold stI at h1
  split at h1
  · rename_i x r
    split at h1
    · rename_i hi
      cases h1
      exact row hls hi (trL_put1 q L i (.int x)) (fun ls' h' => k H locs ls' hH hl (w0 hw) h')
    · cases h1
  · cases h1
theorem gg_stA {i len : Nat} (h1 : stA (mL M) i len pc L st mem = some (.inl (pc', L', st', mem')))
    (k : GG p l e R s m args below meth c q D H0 M n0 Q (w || false) pc' L' st' mem')
    (row : ∀ {H : Heap} {locs : List Loc} {ls : Array Slot} {x : Nat} {rest : List Value} {lv lv' : AL}, lv_has ls (mL M) lv → i < mL M → (i, Value.ref x) :: lv.filter (fun q => !(q.1 == i) && !(q.1 + 1 == i && q.2.category == 2)) = lv' → (∀ ls' : Array Slot, lv_has ls' (mL M) lv' → W p l e R s m args below meth c H locs (mem.length - n0) (100 * (mem.length - n0)) Q (F0 m (pc + len) ls' rest)) → W p l e R s m args below meth c H locs (mem.length - n0) (100 * (mem.length - n0)) Q (F0 m pc ls (.ref x :: rest))) :
    GG p l e R s m args below meth c q D H0 M n0 Q w pc L st mem := by
  intro H locs ls hH hl hw hls
  unfold stA at h1
  split at h1
  · rename_i x r
    split at h1
    · rename_i hi
      cases h1
      exact row hls hi (trL_put1 q L i (.ref x)) (fun ls' h' => k H locs ls' hH hl (w0 hw) h')
    · cases h1
  · cases h1
theorem gg_stL {i len : Nat} (h1 : stL (mL M) i len pc L st mem = some (.inl (pc', L', st', mem')))
    (k : GG p l e R s m args below meth c q D H0 M n0 Q (w || false) pc' L' st' mem')
    (row : ∀ {H : Heap} {locs : List Loc} {ls : Array Slot} {x : Int64} {rest : List Value} {lv lv' : AL}, lv_has ls (mL M) lv → i + 1 < mL M → (i, Value.long x) :: lv.filter (fun q => !(q.1 == i) && (!(q.1 == i + 1) && !(q.1 + 1 == i && q.2.category == 2))) = lv' → (∀ ls' : Array Slot, lv_has ls' (mL M) lv' → W p l e R s m args below meth c H locs (mem.length - n0) (100 * (mem.length - n0)) Q (F0 m (pc + len) ls' rest)) → W p l e R s m args below meth c H locs (mem.length - n0) (100 * (mem.length - n0)) Q (F0 m pc ls (.long x :: rest))) :
    GG p l e R s m args below meth c q D H0 M n0 Q w pc L st mem := by
  intro H locs ls hH hl hw hls
  unfold stL at h1
  split at h1
  · rename_i x r
    split at h1
    · rename_i hi
      cases h1
      exact row hls hi (trL_put2 q L i (.long x)) (fun ls' h' => k H locs ls' hH hl (w0 hw) h')
    · cases h1
  · cases h1
theorem gg_i2 {f : Int32 → Int32 → Int32} (h1 : i2 f pc L st mem = some (.inl (pc', L', st', mem')))
    (k : GG p l e R s m args below meth c q D H0 M n0 Q (w || false) pc' L' st' mem')
    (row : ∀ {H : Heap} {locs : List Loc} {ls : Array Slot} {x y : Int32} {rest : List Value}, W p l e R s m args below meth c H locs (mem.length - n0) (100 * (mem.length - n0)) Q (F0 m (pc + 1) ls (.int (f x y) :: rest)) → W p l e R s m args below meth c H locs (mem.length - n0) (100 * (mem.length - n0)) Q (F0 m pc ls (.int y :: .int x :: rest))) :
    GG p l e R s m args below meth c q D H0 M n0 Q w pc L st mem := by
  intro H locs ls hH hl hw hls
  unfold i2 at h1
  split at h1
  · cases h1
    exact row (k H locs ls hH hl (w0 hw) hls)
  · cases h1
theorem gg_l2 {f : Int64 → Int64 → Int64} (h1 : l2 f pc L st mem = some (.inl (pc', L', st', mem')))
    (k : GG p l e R s m args below meth c q D H0 M n0 Q (w || false) pc' L' st' mem')
    (row : ∀ {H : Heap} {locs : List Loc} {ls : Array Slot} {x y : Int64} {rest : List Value}, W p l e R s m args below meth c H locs (mem.length - n0) (100 * (mem.length - n0)) Q (F0 m (pc + 1) ls (.long (f x y) :: rest)) → W p l e R s m args below meth c H locs (mem.length - n0) (100 * (mem.length - n0)) Q (F0 m pc ls (.long y :: .long x :: rest))) :
    GG p l e R s m args below meth c q D H0 M n0 Q w pc L st mem := by
  intro H locs ls hH hl hw hls
  unfold l2 at h1
  split at h1
  · cases h1
    exact row (k H locs ls hH hl (w0 hw) hls)
  · cases h1
/-- a jump that is taken or not -/
theorem jmp_eq {b : Bool} {off : Int} (h1 : jmp b off pc L st mem = some (.inl (pc', L', st', mem'))) : L' = L ∧ st' = st ∧ mem' = mem ∧ ∃ t : Nat, (pc : Int) + off = (t : Int) ∧ (b = true → pc' = t) ∧ (b = false → pc' = pc + 3) := by
  unfold jmp at h1
  split at h1
  · rename_i t ht
    cases b with
    | true =>
      rw [if_pos rfl] at h1
      cases h1
      exact ⟨rfl, rfl, rfl, pc', br_eq ht, (fun _ => rfl), (fun h => by cases h)⟩
    | false =>
      rw [if_neg (by decide)] at h1
      cases h1
      exact ⟨rfl, rfl, rfl, t, br_eq ht, (fun h => by cases h), (fun _ => rfl)⟩
  · cases h1
theorem gg_if {cd : ClassFile.Cond} {off : Int} (hc : Cx p e s m args meth c D M) (hd : decode (mB M) pc = .ok (.ifCond cd off, 3)) {x : Int32} {r : List Value} (h1 : jmp (Op.ifCond.holds cd x) off pc L r mem = some (.inl (pc', L', st', mem')))
    (k : GG p l e R s m args below meth c q D H0 M n0 Q (w || false) pc' L' st' mem') : GG p l e R s m args below meth c q D H0 M n0 Q w pc L (.int x :: r) mem := by
  intro H locs ls hH hl hw hls
  obtain ⟨rfl, rfl, rfl, t, ht, h2, h3⟩ := jmp_eq h1
  have kk := k H locs ls hH hl (w0 hw) hls
  have yes : Op.ifCond.holds cd x = true → W p l e R s m args below meth c H locs (mem'.length - n0) (100 * (mem'.length - n0)) Q (F0 m t ls (st'.map (tr q))) := fun h => by rw [← h2 h]; exact kk
  have no : Op.ifCond.holds cd x = false → W p l e R s m args below meth c H locs (mem'.length - n0) (100 * (mem'.length - n0)) Q (F0 m (pc + 3) ls (st'.map (tr q))) := fun h => by rw [← h3 h]; exact kk
  cases cd
  · exact lv_if_eq hc.1 hc.2.1 hd ht (fun h => yes (by simp [Op.ifCond.holds, h])) (fun h => no (by simp [Op.ifCond.holds, h]))
  · exact lv_if_ne hc.1 hc.2.1 hd ht (fun h => yes (by simp [Op.ifCond.holds, h])) (fun h => no (by simp [Op.ifCond.holds, h]))
  · exact lv_if_lt hc.1 hc.2.1 hd ht (fun h => yes (by simp [Op.ifCond.holds, h])) (fun h => no (by simp [Op.ifCond.holds, h]))
  · exact lv_if_ge hc.1 hc.2.1 hd ht (fun h => yes (by simp [Op.ifCond.holds, h])) (fun h => no (by simp [Op.ifCond.holds, h]))
  · exact lv_if_gt hc.1 hc.2.1 hd ht (fun h => yes (by simp [Op.ifCond.holds, h])) (fun h => no (by simp [Op.ifCond.holds, h]))
  · exact lv_if_le hc.1 hc.2.1 hd ht (fun h => yes (by simp [Op.ifCond.holds, h])) (fun h => no (by simp [Op.ifCond.holds, h]))
theorem gg_icmp {cd : ClassFile.Cond} {off : Int} (hc : Cx p e s m args meth c D M) (hd : decode (mB M) pc = .ok (.if_icmp cd off, 3)) {x y : Int32} {r : List Value} (h1 : jmp (Op.if_icmp.holds cd x y) off pc L r mem = some (.inl (pc', L', st', mem')))
    (k : GG p l e R s m args below meth c q D H0 M n0 Q (w || false) pc' L' st' mem') : GG p l e R s m args below meth c q D H0 M n0 Q w pc L (.int y :: .int x :: r) mem := by
  intro H locs ls hH hl hw hls
  obtain ⟨rfl, rfl, rfl, t, ht, h2, h3⟩ := jmp_eq h1
  have kk := k H locs ls hH hl (w0 hw) hls
  have yes : Op.if_icmp.holds cd x y = true → W p l e R s m args below meth c H locs (mem'.length - n0) (100 * (mem'.length - n0)) Q (F0 m t ls (st'.map (tr q))) := fun h => by rw [← h2 h]; exact kk
  have no : Op.if_icmp.holds cd x y = false → W p l e R s m args below meth c H locs (mem'.length - n0) (100 * (mem'.length - n0)) Q (F0 m (pc + 3) ls (st'.map (tr q))) := fun h => by rw [← h3 h]; exact kk
  cases cd
  · exact lv_icmp_eq hc.1 hc.2.1 hd ht (fun h => yes (by simp [Op.if_icmp.holds, h])) (fun h => no (by simp [Op.if_icmp.holds, h]))
  · exact lv_icmp_ne hc.1 hc.2.1 hd ht (fun h => yes (by simp [Op.if_icmp.holds, h])) (fun h => no (by simp [Op.if_icmp.holds, h]))
  · exact lv_icmp_lt hc.1 hc.2.1 hd ht (fun h => yes (by simp [Op.if_icmp.holds, h])) (fun h => no (by simp [Op.if_icmp.holds, h]))
  · exact lv_icmp_ge hc.1 hc.2.1 hd ht (fun h => yes (by simp [Op.if_icmp.holds, h])) (fun h => no (by simp [Op.if_icmp.holds, h]))
  · exact lv_icmp_gt hc.1 hc.2.1 hd ht (fun h => yes (by simp [Op.if_icmp.holds, h])) (fun h => no (by simp [Op.if_icmp.holds, h]))
  · exact lv_icmp_le hc.1 hc.2.1 hd ht (fun h => yes (by simp [Op.if_icmp.holds, h])) (fun h => no (by simp [Op.if_icmp.holds, h]))
end STEP
