/-! The small machine's run is the machine's. -/
section RET
variable {p : Program} {l : Launch} {e : Env} {R : Room} {s : State} {m : MethodId} {args : Array Value} {below : List Frame} {meth : Method} {c : Code}
variable {q : AQ} {D : va_G} {H0 : Heap} {M : MI} {n0 : Nat} {w : Bool} {pc : Nat} {L : AL} {st : List Value} {mem : AM}
theorem mq_eq {v : Option Value} {N : Nat} (t : State) (h : MQ below (fun _ _ o t => o = .returned (v.map (tr q)) ∧ HR q D s H0 mem t.heap) args s N (100 * N) (fun x => w = true ∧ q.2.2 ≤ x) t) : EQ below q D H0 (.inl v, mem, w) N s t := by
  obtain ⟨o, h1, h2, ⟨h3, h4⟩, L, ⟨-, h6, h7⟩, h8⟩ := h
  refine ⟨o, h1, h2, h3, h4, h6, L, h7, fun x hx => (h8 x hx).2, fun hw => ?_⟩
  cases L with
  | nil => rfl
  | cons x r =>
    have := (h8 x List.mem_cons_self).1
    rw [show w = false from hw] at this
    cases this
theorem hfree {locs : List Loc} (hl : ∀ x ∈ locs, q.2.2 ≤ x.base) (hw : w = false → locs = []) : ∀ x ∈ locs, w = true ∧ q.2.2 ≤ x.base := fun x hx => by
  refine ⟨?_, hl x hx⟩
  cases w with
  | true => rfl
  | false => rw [hw rfl] at hx; cases hx
theorem one_ret (hc : Cx p e s m args meth c D M) {i : Instr} (hf : fetch M pc = some i) {v : Option Value} (h1 : one M i pc L st mem = some (.inr (.inl v))) :
    GG p l e R s m args below meth c q D H0 M n0 (EQ below q D H0 (.inl v, mem, w) (mem.length - n0) s) w pc L st mem := by
  intro H locs ls hH hl hw hls
  refine W.mono (mq_eq (args := args)) ?_
  have hq : ∀ t : State, t.heap = H → s.WarmedH t.vm → (fun (_ : Array Value) (_ : State) (o : Outcome) (t : State) => o = .returned (v.map (tr q)) ∧ HR q D s H0 mem t.heap) args s (.returned (v.map (tr q))) t := fun t ht _ => ⟨rfl, by rw [ht]; exact hH⟩
  have hfr := hfree hl hw
  have hr := hc.2.2.2.1
  have hlk := hc.2.2.2.2.2.2.2.1
  rcases fetch_dec hf with hd | ⟨d, lo, hi, offs, n, rfl, hd⟩
  rotate_left
  · dsimp only [one] at h1
    split at h1
    · split at h1
      · unfold jmp at h1
        split at h1
        · split at h1 <;> cases h1
        · cases h1
      · split at h1
        · unfold jmp at h1
          split at h1
          · split at h1 <;> cases h1
          · cases h1
        · cases h1
    · cases h1
  cases i
  case ireturn =>
    dsimp only [one] at h1
    split at h1
    · rename_i x he
      cases h1
      exact W.iret hc.1 hc.2.1 (hr.trans he) hq hfr hd hlk
    · rename_i x he
      split at h1
      · rename_i hx
        cases h1
        refine W.zret hc.1 hc.2.1 (hr.trans he) ?_ hq hfr hd hlk
        rcases hx with rfl | rfl <;> rfl
      · cases h1
    · cases h1
  case lreturn =>
    dsimp only [one] at h1
    split at h1
    · rename_i x he
      cases h1
      exact W.lret hc.1 hc.2.1 (hr.trans he) hq hfr hd hlk
    · cases h1
  case areturn =>
    dsimp only [one] at h1
    split at h1
    · rename_i x y he
      cases h1
      exact W.aret hc.1 hc.2.1 (hr.trans he) (Or.inl ⟨_, rfl⟩) (Or.inr ⟨_, rfl⟩) hq hfr hd hlk
    · rename_i x y he
      cases h1
      exact W.aret hc.1 hc.2.1 (hr.trans he) (Or.inr ⟨_, rfl⟩) (Or.inr ⟨_, rfl⟩) hq hfr hd hlk
    · cases h1
  case return_ =>
    dsimp only [one] at h1
    split at h1
    · rename_i he
      cases h1
      exact W.vret hc.1 hc.2.1 (hr.trans he) hq hfr hd hlk
    · cases h1
  all_goals (exfalso; dsimp only [one, i2, l2, ldI, ldL, ldA, stI, stL, stA, aLd, aSt, jmp] at h1; (repeat' split at h1) <;> cases h1)
end RET
theorem one_len {M : MI} {i : Instr} {pc : Nat} {L : AL} {st : List Value} {mem : AM} {pc' : Nat} {L' : AL} {st' : List Value} {mem' : AM} (h1 : one M i pc L st mem = some (.inl (pc', L', st', mem'))) : mem.length ≤ mem'.length := by
  cases i <;> dsimp only [one, i2, l2, ldI, ldL, ldA, stI, stL, stA, aLd, aSt, jmp] at h1 <;> (repeat' split at h1) <;> first
    | (cases h1; done)
    | (cases h1; exact Nat.le_refl _)
    | (cases h1; rw [List.length_set]; exact Nat.le_refl _)
    | (cases h1; rw [List.length_append]; exact Nat.le_add_right _ _)
theorem cop_spec {M : MI} {pc : Nat} {st : List Value} {mem mem' : AM} (h : cop M pc st mem = some mem') : ∃ (n : Int32) (a : Nat) (vs : List Value), fetch M (pc + 3) = some (.invokestatic 300) ∧ st = [.ref a, .int n, .ref a] ∧ mem[a]? = some (.inl (.object "java/lang/Object", vs)) ∧ ¬ n < 0 ∧ vs.length ≤ n.toNatClampNeg ∧ n.toNatClampNeg ≤ 100 ∧ vs.all (okE1 mem) = true ∧ mem' = mem ++ [.inl (.object "java/lang/Object", vs ++ List.replicate (n.toNatClampNeg - vs.length) .null)] := by
  unfold cop at h
  split at h
  · rename_i j hf
    split at h
    · rename_i b n a
      split at h
      · rename_i C vs hm
        split at h
        · rename_i hk
          obtain ⟨rfl, rfl, rfl, k1, k2, k3, k4⟩ := hk
          cases h
          exact ⟨n, b, vs, hf, rfl, hm, k1, k2, k3, k4, rfl⟩
        · cases h
      · cases h
    · cases h
  · cases h
theorem cop_len {M : MI} {pc : Nat} {st : List Value} {mem mem' : AM} (h : cop M pc st mem = some mem') : mem.length ≤ mem'.length := by
  obtain ⟨n, a, vs, -, -, -, -, -, -, -, rfl⟩ := cop_spec h
  rw [List.length_append]
  exact Nat.le_add_right _ _
theorem run_len : ∀ (f d : Nat) (M : MI) (n0 : Nat) (w : Bool) (pc : Nat) (L : AL) (st : List Value) (mem : AM) (r : RS), run f d M n0 w pc L st mem = some r → mem.length ≤ r.2.1.length := by
  intro f
  induction f with
  | zero => intro d M n0 w pc L st mem r h; cases h
  | succ f ih =>
    intro d M n0 w pc L st mem r h
    simp only [run] at h
    split at h
    · cases h
    · rename_i i hf
      split at h
      · cases h
      · rename_i pc' L' st' mem' h1
        exact Nat.le_trans (one_len h1) (ih _ _ _ _ _ _ _ _ _ h)
      · cases h
        exact Nat.le_refl _
      · rename_i M' as rest h1
        split at h
        · cases h
        · split at h
          · split at h
            · cases h
            · rename_i v mem' w' h2
              exact Nat.le_trans (ih _ _ _ _ _ _ _ _ _ h2) (ih _ _ _ _ _ _ _ _ _ h)
            · rename_i k mem' w' h2
              have h3 := ih _ _ _ _ _ _ _ _ _ h2
              split at h
              · split at h
                · cases h
                  exact h3
                · split at h
                  · cases h
                  · exact Nat.le_trans h3 (ih _ _ _ _ _ _ _ _ _ h)
              · cases h
          · cases h
      · split at h
        · split at h
          · rename_i mem' h2
            exact Nat.le_trans (cop_len h2) (ih _ _ _ _ _ _ _ _ _ h)
          · cases h
        · split at h
          · split at h
            · cases h
              rw [List.length_append]
              exact Nat.le_add_right _ _
            · cases h
          · cases h
def Cy (e : Env) (s : State) (c : Code) (q : AQ) (H0 : Heap) (M : MI) : Prop := c.exceptionTable.toList = tableOf (mX M) ∧ e.platform.stackTraces = false ∧ KX q H0 s
def RMs (R : Room) (d N : Nat) : Prop := d + 8 ≤ R.frames ∧ 64 * d + 200 ≤ R.locals ∧ N ≤ R.cells ∧ 100 * N ≤ R.slots
def rmd (d N : Nat) : Room := { frames := d + 8, cells := N, slots := 100 * N, locals := 64 * d + 200 }
theorem trL_args (q : AQ) : ∀ (as : List Value) (i : Nat), lv_args i (as.map (tr q)) = trL q (lv_args i as) := by
  intro as
  induction as with
  | nil => intro i; rfl
  | cons v r ih =>
    intro i
    simp only [List.map_cons, lv_args, tr_cat]
    rw [ih]
    rfl
theorem sl_len (q : AQ) (as : List Value) : (lg_sl (as.map (tr q))).length = (lg_sl as).length := by
  induction as with
  | nil => rfl
  | cons v r ih =>
    simp only [lg_sl, List.map_cons, List.flatMap_cons, List.length_append, tr_cat] at ih ⊢
    rw [ih]
    congr 1
    split <;> rfl
theorem mx_of {l : Launch} {q : AQ} {D : va_G} {H0 : Heap} {M : MI} {as : List Value} {mem : AM} {r : RS} {d : Nat} (htr : ∀ e, l.admits e → e.platform.stackTraces = false) (hM : okMI M) (hlen : (lg_sl as).length ≤ mL M)
    (body : ∀ {p : Program} {e : Env} {s : State} {m : MethodId} {args : Array Value} {below : List Frame} {meth : Method} {c : Code}, Cx p e s m args meth c D M → Cy e s c q H0 M →
      GG p l e (rmd d (r.2.1.length - mem.length)) s m args below meth c q D H0 M mem.length (EQ below q D H0 r (r.2.1.length - mem.length) s) false 0 (lv_args 0 as) [] mem) :
    MX l q D H0 (mY M) (rmd d (r.2.1.length - mem.length)) as mem r (r.2.1.length - mem.length) (KX q H0) := by
  refine MetFree.of_bodySF (code := mB M) (maxLocals := mL M) (ret := mR M) hM.2.1 ?_ ?_
  · intro args s m h hn
    obtain ⟨mk, meth, c, a1, a2, a3, a4, a5, a6, a7, -, -⟩ := okMI_spec hM (atoms_spec (ws := lw_t2) h)
    cases Option.some.inj (a1.symm.trans hn)
    exact ⟨meth, c, a2, a3, a4, a5, a6, a7⟩
  · intro p e s m args below meth c s₁ B hml hP _
    obtain ⟨rfl, hH, hK, hKX⟩ := hP
    have hts := atoms_spec (ws := lw_t2) B.pre
    have hh0 : s₁.heap = s.heap := by rw [B.state]; rfl
    obtain ⟨mk, meth', c', a1, a2, a3, a4, a5, a6, a7, a8, -⟩ := okMI_spec hM hts
    cases Option.some.inj (a1.symm.trans B.named)
    cases Option.some.inj (a2.symm.trans B.method)
    cases Option.some.inj (a3.symm.trans (Stand.of_body B).code)
    have hcx : Cx p e s m (as.map (tr q)).toArray meth c D M := ⟨B.exec, B.bytes, hml, B.returns, findClass_of_methodNamed B.named, hts, hK, B.notSynchronized, fun h => (name_of_methodNamed B.named B.method).1.trans (hM.2.2.2.2.1 h), hM.1⟩
    have k := body (below := below) hcx ⟨a8, htr e B.admits, hKX⟩
    have hls := lv_entry (as.map (tr q)) (n := mL M) (by rw [sl_len]; exact hlen)
    rw [trL_args] at hls
    have kk := k s₁.heap [] _ (by rw [hh0]; exact hH) (fun x h => by cases h) (fun _ => rfl) hls
    rw [Nat.sub_self, Nat.mul_zero] at kk
    obtain ⟨t, b1, o, b2, b3, b4⟩ := kk s₁ rfl (Stand.of_body B)
    refine ⟨t, o, ?_, b2, b3, b4⟩
    rw [lg_entry_eq]
    exact b1
