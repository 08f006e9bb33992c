/-! What the small machine's memory is in the heap. -/
abbrev AQ : Type := Nat × Nat × Nat
def ad (q : AQ) (k : Nat) : Nat := if k = 0 then q.1 else if k = 1 then q.2.1 else q.2.2 + (k - 2)
def tr (q : AQ) (v : Value) : Value := match v with
  | .ref k => .ref (ad q k)
  | v => v
def trL (q : AQ) (L : AL) : AL := L.map (fun x => (x.1, tr q x.2))
theorem tr_cat (q : AQ) (v : Value) : (tr q v).category = v.category := by cases v <;> rfl
def okQ (q : AQ) : Prop := q.1 < q.2.2 ∧ q.2.1 < q.2.2 ∧ q.1 ≠ q.2.1
theorem ad_inj {q : AQ} (h : okQ q) {i j : Nat} (e : ad q i = ad q j) : i = j := by
  obtain ⟨h1, h2, h3⟩ := h
  unfold ad at e
  split at e <;> split at e <;> (try split at e) <;> (try split at e) <;> omega
theorem ad_hi (q : AQ) {k : Nat} (h : 2 ≤ k) : ad q k = q.2.2 + (k - 2) := by
  unfold ad
  rw [if_neg (by omega), if_neg (by omega)]
def atC (q : AQ) (D : va_G) (U : State) (H : Heap) (k : Nat) (c : AC) : Prop := match c with
  | .inl a => ∃ cell : Cell, H[ad q k]? = some cell ∧ U.isArrayOf cell a.1 ∧ cell.vm ≠ .unknown ∧ (∀ C, a.1 = .object C → va_RA U cell.cls a.1) ∧ cell.slots = (a.2.map (tr q)).toArray
  | .inr o => ∃ r : vw_C, CLs[o.1]? = some r ∧ o.2.length = r.2.2 ∧ t_OB (ad q k) (D.1 o.1) r.2.2 (D.2 o.1) H (vp_V (o.2.map (tr q)))
theorem atC.kept {q : AQ} {D : va_G} {U : State} {H H1 : Heap} {k : Nat} {c : AC} (h : atC q D U H k c) (e : H1[ad q k]? = H[ad q k]?) : atC q D U H1 k c := by
  cases c with
  | inl a =>
    obtain ⟨cell, h1, h2⟩ := h
    exact ⟨cell, by rw [e]; exact h1, h2⟩
  | inr o =>
    obtain ⟨r, h1, h2, h3⟩ := h
    exact ⟨r, h1, h2, h3.kept e⟩
theorem atC.lt {q : AQ} {D : va_G} {U : State} {H : Heap} {k : Nat} {c : AC} (h : atC q D U H k c) : ad q k < H.size := by
  cases c with
  | inl a =>
    obtain ⟨cell, h1, h2⟩ := h
    exact (Array.getElem?_eq_some_iff.mp h1).1
  | inr o =>
    obtain ⟨r, h1, h2, cell, h3, -⟩ := h
    exact (Array.getElem?_eq_some_iff.mp h3).1
theorem atC.moved {q : AQ} {D : va_G} {U U1 : State} {H : Heap} {k : Nat} {c : AC} (hvm : U.vm.Alike U1.vm) (h : atC q D U H k c) : atC q D U1 H k c := by
  cases c with
  | inl a =>
    obtain ⟨cell, h1, h2, h3, h4, h5⟩ := h
    exact ⟨cell, h1, State.isArrayOf_alike hvm h2, h3, fun C hC => (h4 C hC).moved hvm, h5⟩
  | inr o => exact h
def HR (q : AQ) (D : va_G) (U : State) (H0 : Heap) (mem : AM) (H : Heap) : Prop :=
  2 ≤ mem.length ∧ H.size + 2 = q.2.2 + mem.length ∧ okQ q ∧ (∀ x, x < q.2.2 → H[x]? = H0[x]?) ∧ ∀ (k : Nat) (c : AC), mem[k]? = some c → atC q D U H k c
section HRs
variable {q : AQ} {D : va_G} {U U1 : State} {H0 H H1 : Heap} {mem : AM} {k : Nat} {c c0 : AC}
theorem HR.moved (hvm : U.vm.Alike U1.vm) (h : HR q D U H0 mem H) : HR q D U1 H0 mem H := ⟨h.1, h.2.1, h.2.2.1, h.2.2.2.1, fun k c hk => (h.2.2.2.2 k c hk).moved hvm⟩
theorem HR.size (h : HR q D U H0 mem H) : H.size = ad q mem.length := by
  rw [ad_hi q h.1]
  have := h.2.1
  have := h.1
  omega
theorem HR.set (h : HR q D U H0 mem H) (hk : mem[k]? = some c0) (h2 : 2 ≤ k) (hs : H1.size = H.size) (ho : ∀ x, x ≠ ad q k → H1[x]? = H[x]?) (hc : atC q D U H1 k c) : HR q D U H0 (mem.set k c) H1 := by
  have hl := (List.getElem?_eq_some_iff.mp hk).1
  refine ⟨by rw [List.length_set]; exact h.1, by rw [List.length_set, hs]; exact h.2.1, h.2.2.1, fun x hx => ?_, fun i ci hi => ?_⟩
  · rw [ho x (by rw [ad_hi q h2]; omega)]
    exact h.2.2.2.1 x hx
  · by_cases e : i = k
    · subst e
      rw [List.getElem?_set_self hl] at hi
      cases hi
      exact hc
    · rw [List.getElem?_set_ne (Ne.symm e)] at hi
      exact (h.2.2.2.2 i ci hi).kept (ho _ (fun z => e (ad_inj h.2.2.1 z)))
theorem HR.push (h : HR q D U H0 mem H) (hs : H1.size = H.size + 1) (ho : ∀ x, x < H.size → H1[x]? = H[x]?) (hc : atC q D U H1 mem.length c) : HR q D U H0 (mem ++ [c]) H1 := by
  have h1 := h.1
  have h2 := h.2.1
  refine ⟨by simp; omega, by simp; omega, h.2.2.1, fun x hx => ?_, fun i ci hi => ?_⟩
  · rw [ho x (by omega)]
    exact h.2.2.2.1 x hx
  · by_cases e : i < mem.length
    · rw [List.getElem?_append_left e] at hi
      have := h.2.2.2.2 i ci hi
      exact this.kept (ho _ this.lt)
    · rw [List.getElem?_append_right (by omega)] at hi
      have hz : i - mem.length < 1 := (List.getElem?_eq_some_iff.mp hi).1
      have e2 : i = mem.length := by omega
      subst e2
      rw [Nat.sub_self] at hi
      cases hi
      exact hc
end HRs
theorem lget_has {q : AQ} {ls : Array Slot} {nL : Nat} {L : AL} (h : lv_has ls nL (trL q L)) {i : Nat} {v : Value} (e : lget L i = some v) : ls[i]? = some (.val (tr q v)) := by
  unfold lget at e
  cases hf : L.find? (fun q => q.1 == i) with
  | none => rw [hf] at e; cases e
  | some x =>
    rw [hf] at e
    cases e
    have h1 := List.mem_of_find?_eq_some hf
    have h2 := List.find?_some hf
    have h3 : x.1 = i := by simpa using h2
    have := h.2.2 (x.1, tr q x.2) (List.mem_map.mpr ⟨x, h1, rfl⟩)
    rw [← h3]
    exact this
theorem trL_put1 (q : AQ) (L : AL) (i : Nat) (v : Value) : (i, tr q v) :: (trL q L).filter (fun q => !(q.1 == i) && !(q.1 + 1 == i && q.2.category == 2)) = trL q (lput1 L i v) := by
  unfold lput1 trL
  rw [List.map_cons, List.filter_map]
  congr 1
  congr 1
  apply List.filter_congr
  intro x _
  simp [Function.comp, tr_cat]
theorem trL_put2 (q : AQ) (L : AL) (i : Nat) (v : Value) : (i, tr q v) :: (trL q L).filter (fun q => !(q.1 == i) && (!(q.1 == i + 1) && !(q.1 + 1 == i && q.2.category == 2))) = trL q (lput2 L i v) := by
  unfold lput2 trL
  rw [List.map_cons, List.filter_map]
  congr 1
  congr 1
  apply List.filter_congr
  intro x _
  simp [Function.comp, tr_cat]
theorem br_eq {pc : Nat} {off : Int} {t : Nat} (h : br pc off = some t) : (pc : Int) + off = (t : Int) := by
  unfold br at h
  split at h
  · cases h
    omega
  · cases h
theorem find_ok {α : Type} {l : List ((Nat × Nat) × α)} {P : (Nat × Nat) × α → Prop} (ok : ∀ x ∈ l, P x) {h i : Nat} {a : α} (e : (l.find? (fun e => e.1.1 == h && e.1.2 == i)).map (fun e => e.2) = some a) : P ((h, i), a) := by
  cases hf : l.find? (fun e => e.1.1 == h && e.1.2 == i) with
  | none => rw [hf] at e; cases e
  | some x =>
    rw [hf] at e
    cases e
    have h1 := List.mem_of_find?_eq_some hf
    have h2 := List.find?_some hf
    have h3 : x.1.1 = h ∧ x.1.2 = i := by simpa using h2
    have := ok x h1
    obtain ⟨⟨a, b⟩, c⟩ := x
    obtain ⟨h4, h5⟩ := h3
    dsimp only at h4 h5
    subst h4
    subst h5
    exact this
theorem rF_ok {h i : Nat} {a : Nat × Nat × Nat} (e : rF h i = some a) : okF ((h, i), a) := find_ok ok_rFs e
theorem rM_ok {h i : Nat} {a : Nat × Nat × MI} (e : rM h i = some a) : okM ((h, i), a) := find_ok ok_rMs e
theorem rC_ok {h i : Nat} {a : Nat} (e : rC h i = some a) : okR ((h, i), a) := find_ok ok_rCs e
theorem rK_ok {h i : Nat} {a : Int32} (e : rK h i = some a) : okK ((h, i), a) := find_ok ok_rKs e
theorem rJ_ok {h i : Nat} {a : Int64} (e : rJ h i = some a) : okJ ((h, i), a) := find_ok ok_rJs e
theorem rX_ok {h i : Nat} {a : Nat} (e : rX h i = some a) : okX ((h, i), a) := find_ok ok_rXs e
theorem rA_ok {h i : Nat} {a : String} (e : rA h i = some a) : okA ((h, i), a) := find_ok ok_rAs e
theorem rY_ok {h i : Nat} {a : Nat} (e : rY h i = some a) : okY ((h, i), a) := find_ok ok_rYs e
theorem rE_ok {h i : Nat} {a : Nat} (e : rE h i = some a) : okE ((h, i), a) := find_ok ok_rEs e
theorem cls_all {ci : Nat} {r : vw_C} (h : CLs[ci]? = some r) : ∃ (n : Nat) (ty : Nat → FieldType), tys[ci]? = some ty ∧ okC ci r.1 r.2.1 r.2.2 n ty := by
  have hl : ci < 15 := (List.getElem?_eq_some_iff.mp h).1
  have hc : ci = 0 ∨ ci = 1 ∨ ci = 2 ∨ ci = 3 ∨ ci = 4 ∨ ci = 5 ∨ ci = 6 ∨ ci = 7 ∨ ci = 8 ∨ ci = 9 ∨ ci = 10 ∨ ci = 11 ∨ ci = 12 ∨ ci = 13 ∨ ci = 14 := by omega
  rcases hc with rfl | rfl | rfl | rfl | rfl | rfl | rfl | rfl | rfl | rfl | rfl | rfl | rfl | rfl | rfl
  · cases h; exact ⟨_, _, rfl, okC_0⟩
  · cases h; exact ⟨_, _, rfl, okC_1⟩
  · cases h; exact ⟨_, _, rfl, okC_2⟩
  · cases h; exact ⟨_, _, rfl, okC_3⟩
  · cases h; exact ⟨_, _, rfl, okC_4⟩
  · cases h; exact ⟨_, _, rfl, okC_5⟩
  · cases h; exact ⟨_, _, rfl, okC_6⟩
  · cases h; exact ⟨_, _, rfl, okC_7⟩
  · cases h; exact ⟨_, _, rfl, okC_8⟩
  · cases h; exact ⟨_, _, rfl, okC_9⟩
  · cases h; exact ⟨_, _, rfl, okC_10⟩
  · cases h; exact ⟨_, _, rfl, okC_11⟩
  · cases h; exact ⟨_, _, rfl, okC_12⟩
  · cases h; exact ⟨_, _, rfl, okC_13⟩
  · cases h; exact ⟨_, _, rfl, okC_14⟩
