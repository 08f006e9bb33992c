/-! The small machine's run is the machine's. -/
theorem one_thr {M : MI} {i : Instr} {pc : Nat} {L : AL} {st : List Value} {mem : AM} {ci : Nat} (h1 : one M i pc L st mem = some (.inr (.inr (.inr ci)))) (h99 : ¬ ci = 99) : ∃ (k : Nat) (rr : vw_C), i = .new k ∧ rC (mH M) k = some ci ∧ CLs[ci]? = some rr ∧ 12 ≤ ci := by
  cases i
  case new k =>
    dsimp only [one] at h1
    split at h1
    · rename_i c2 hr
      split at h1
      · rename_i rr t hcl htt
        split at h1
        · rename_i h12
          cases h1
          exact ⟨k, rr, rfl, hr, hcl, h12⟩
        · cases h1
      · cases h1
    · cases h1
  all_goals (exfalso; dsimp only [one, i2, l2, ldI, ldL, ldA, stI, stL, stA, aLd, aSt, jmp] at h1; (repeat' split at h1) <;> first | (cases h1; done) | (cases h1; exact h99 rfl))
theorem one_cop {M : MI} {i : Instr} {pc : Nat} {L : AL} {st : List Value} {mem : AM} (h1 : one M i pc L st mem = some (.inr (.inr (.inr 99)))) : i = .invokevirtual 86 ∧ mH M = 4 := by
  cases i
  case invokevirtual k =>
    dsimp only [one] at h1
    split at h1
    · exfalso
      (repeat' split at h1) <;> cases h1
    · split at h1
      · rename_i hk
        obtain ⟨h2, rfl⟩ := hk
        exact ⟨rfl, h2⟩
      · cases h1
  case new k =>
    exfalso
    dsimp only [one] at h1
    split at h1
    · split at h1
      · rename_i rr t hcl htt
        split at h1
        · cases h1
          cases hcl
        · cases h1
      · cases h1
    · cases h1
  all_goals (exfalso; dsimp only [one, i2, l2, ldI, ldL, ldA, stI, stL, stA, aLd, aSt, jmp] at h1; (repeat' split at h1) <;> cases h1)
section SOUND
variable {p : Program} {l : Launch} {e : Env} {R : Room} {s : State} {m : MethodId} {args : Array Value} {below : List Frame} {meth : Method} {c : Code}
variable {q : AQ} {D : va_G} {H0 : Heap} {M : MI} {n0 : Nat} {w : Bool} {pc : Nat} {L : AL} {st : List Value} {mem : AM}
theorem one_call (hc : Cx p e s m args meth c D M) {i : Instr} (hf : fetch M pc = some i) {M' : MI} {as rest : List Value} (h1 : one M i pc L st mem = some (.inr (.inr (.inl (M', as, rest))))) :
    okMI M' ∧ decode (mB M) pc = .ok (i, 3) ∧ ∀ {T : State} {ls : Array Slot} {locs : List Loc} {cells slots : Nat}, Stand p l e R s m args below meth c T locs cells slots → HR q D s H0 mem T.heap → Enters p l e R s m args below meth c q M' as rest st pc T ls locs cells slots := by
  cases i
  case invokestatic k =>
    have hd := fetch_new hf (fun _ _ _ _ z => by cases z)
    dsimp only [one] at h1
    split at h1
    · exfalso
      (repeat' split at h1) <;> cases h1
    · split at h1
      · rename_i kd n M2 hr
        split at h1
        · rename_i hk
          cases h1
          obtain ⟨own, host, o1, o2, -⟩ := rM_ok hr
          exact ⟨o2, hd, fun X _ => enters_S X hc hd hr hk.1 hk.2⟩
        · cases h1
      · cases h1
  case invokespecial k =>
    have hd := fetch_new hf (fun _ _ _ _ z => by cases z)
    dsimp only [one] at h1
    split at h1
    · split at h1
      · split at h1 <;> cases h1
      · cases h1
    · cases h1
    · split at h1
      · rename_i kd n M2 hr
        split at h1
        · rename_i hk
          split at h1
          · rename_i a r hst
            cases h1
            obtain ⟨own, host, o1, o2, -⟩ := rM_ok hr
            exact ⟨o2, hd, fun X _ => enters_I X hc hd hr hk.1 hk.2 hst⟩
          · cases h1
        · cases h1
      · cases h1
  case invokevirtual k =>
    have hd := fetch_new hf (fun _ _ _ _ z => by cases z)
    dsimp only [one] at h1
    split at h1
    · rename_i kd n M2 hr
      split at h1
      · rename_i hk
        split at h1
        · rename_i a r hst
          split at h1
          · rename_i ci fs hm
            split at h1
            · rename_i hci
              cases h1
              obtain ⟨own, host, o1, o2, -⟩ := rM_ok hr
              exact ⟨o2, hd, fun X hH => enters_V X hc hH hd hr hk.1 hk.2 hst hm hci⟩
            · cases h1
          · cases h1
        · cases h1
      · cases h1
    · split at h1 <;> cases h1
  all_goals (exfalso; dsimp only [one, i2, l2, ldI, ldL, ldA, stI, stL, stA, aLd, aSt, jmp] at h1; (repeat' split at h1) <;> cases h1)
theorem lv_arr {v : Option Value} {rest : List Value} : (v.toList ++ rest).map (tr q) = (v.map (tr q)).toList ++ rest.map (tr q) := by
  cases v <;> simp
set_option maxHeartbeats 2000000 in
theorem run_sound (htr : ∀ e, l.admits e → e.platform.stackTraces = false) : ∀ (f d : Nat) (M : MI) (n0 : Nat) (w : Bool) (pc : Nat) (L : AL) (st : List Value) (mem : AM) (r : RS), run f d M n0 w pc L st mem = some r →
    ∀ {p : Program} {e : Env} {R : Room} {s : State} {m : MethodId} {args : Array Value} {below : List Frame} {meth : Method} {c : Code}, Cx p e s m args meth c D M → Cy e s c q H0 M → n0 ≤ mem.length → RMs R d (r.2.1.length - n0) →
      GG p l e R s m args below meth c q D H0 M n0 (EQ below q D H0 r (r.2.1.length - n0) s) w pc L st mem := by
  intro f
  induction f with
  | zero => intro d M n0 w pc L st mem r h; cases h
  | succ f ih =>
    intro d M n0 w pc L st mem r h p e R s m args below meth c hc hy hn0 hR
    have hR' := hR
    obtain ⟨R1, R2, R3, R4⟩ := hR'
    simp only [run] at h
    split at h
    · cases h
    · rename_i i hf
      split at h
      · cases h
      · rename_i pc' L' st' mem' h1
        have a1 := one_len h1
        have a2 := run_len _ _ _ _ _ _ _ _ _ _ h
        exact one_go hc hy.2.2 hf h1 hn0 ⟨by omega, by omega⟩ ⟨by omega, by omega⟩ (ih _ _ _ _ _ _ _ _ _ h hc hy (by omega) hR)
      · rename_i v h1
        cases h
        exact one_ret hc hf h1
      · rename_i M' as rest h1
        split at h
        · cases h
        · rename_i d'
          split at h
          · rename_i hcond
            obtain ⟨hM', hd, hent⟩ := one_call (l := l) (R := R) (below := below) (q := q) (H0 := H0) hc hf h1
            have hts := hc.2.2.2.2.2.1
            have main : ∀ r' : RS, run f d' M' mem.length false 0 (lv_args 0 as) [] mem = some r' → r'.2.1.length - n0 ≤ r.2.1.length - n0 → ∀ (H : Heap) (locs : List Loc) (ls : Array Slot), HR q D s H0 mem H → lv_has ls (mL M) (trL q L) → ∀ T : State, T.heap = H → Stand p l e R s m args below meth c T locs (mem.length - n0) (100 * (mem.length - n0)) →
                ∃ (T' : State) (Lc : List Loc), Stand p l e R s m args below meth c T' (locs ++ Lc) (r'.2.1.length - n0) (100 * (r'.2.1.length - n0)) ∧ HR q D s H0 r'.2.1 T'.heap ∧ (∀ x ∈ Lc, q.2.2 ≤ x.base) ∧ (r'.2.2 = false → Lc = []) ∧
                  (∀ v, r'.1 = .inl v → ∀ tg, Steps p.tables e below (T'.setTop (F0 m (pc + 3) ls ((v.toList ++ rest).map (tr q)))) tg → Steps p.tables e below (T.setTop (F0 m pc ls (st.map (tr q)))) tg) ∧
                  (∀ k, r'.1 = .inr k → ∀ tg, Steps p.tables e below ((T'.setTop (F0 m pc ls (rest.map (tr q)))).pushFrame (.throwing (ad q k))) tg → Steps p.tables e below (T.setTop (F0 m pc ls (st.map (tr q)))) tg) := by
              intro r' h2 hle H locs ls hH hls T hT X
              subst hT
              have a1 := run_len _ _ _ _ _ _ _ _ _ _ h2
              obtain ⟨vm₁, mk, methY, cY, X₁, e1, e2, e3, e4, hs⟩ := hent (ls := ls) X hH
              have hMX := mx_of (as := as) (mem := mem) (r := r') (d := d') (q := q) (D := D) (H0 := H0) htr hM' hcond.2 (fun hc' hy' => ih _ _ _ _ _ _ _ _ _ h2 hc' hy' (Nat.le_refl _) ⟨Nat.le_refl _, Nat.le_refl _, Nat.le_refl _, Nat.le_refl _⟩)
              have hcat : ((rest.map (tr q)).map fun v => v.category).sum = (rest.map fun v => v.category).sum := by simp [tr_cat, Function.comp_def]
              have hmL := hM'.2.2.2.2.2
              obtain ⟨T', Lc, X', b1, b2, b3, b4, b5⟩ := call_core X₁ hts hMX rfl rfl e1 e2 e3 e4 (hts _ hM'.2.2.2.1) (g := F0 m pc ls (rest.map (tr q))) rfl (by rw [hc.2.2.1]; exact hls.1) (ig := i) (len := 3) (by rw [hc.2.1]; exact hd)
                (show d' + 8 + 1 ≤ R.frames by omega) (by
                  show 2 * 0 + ((rest.map (tr q)).map fun v => v.category).sum + (mL M' + 11) + (64 * d' + 200) ≤ R.locals
                  rw [hcat]
                  have := hcond.1
                  omega) (by omega) (by omega) hH hc.2.2.2.2.2.2.1 (KX.moved hy.2.2 X₁.warmed.alike (fun x hx => hH.2.2.2.1 x hx))
              have c1 : mem.length - n0 + (r'.2.1.length - mem.length) = r'.2.1.length - n0 := by omega
              have c2 : 100 * (mem.length - n0) + 100 * (r'.2.1.length - mem.length) = 100 * (r'.2.1.length - n0) := by omega
              rw [c1, c2] at X'
              refine ⟨T', Lc, X', b1, b2, b3, fun v hv tg ht => hs tg ((b4 v hv).trans ?_), fun k hk tg ht => hs tg ((b5 k hk).trans ht)⟩
              rw [lv_arr] at ht
              exact ht
            split at h
            · cases h
            · rename_i v mem' w' h2
              have a2 := run_len _ _ _ _ _ _ _ _ _ _ h
              have a3 := run_len _ _ _ _ _ _ _ _ _ _ h2
              have kk := ih _ _ _ _ _ _ _ _ _ h hc hy (Nat.le_trans hn0 a3) hR (below := below)
              intro H locs ls hH hl hw hls T hT X
              obtain ⟨T', Lc, X', b1, b2, b3, b4, -⟩ := main _ h2 (by dsimp only at a2 ⊢; omega) H locs ls hH hls T hT X
              obtain ⟨t, t1, t2⟩ := kk T'.heap (locs ++ Lc) ls b1 (fun x hx => (List.mem_append.mp hx).elim (hl x) (b2 x)) (fun hz => by
                have hz' : w = false ∧ w' = false := by simpa using hz
                rw [hw hz'.1, b3 hz'.2]
                rfl) hls T' rfl X'
              exact ⟨t, b4 v rfl t t1, t2⟩
            · rename_i k mem' w' h2
              have a3 := run_len _ _ _ _ _ _ _ _ _ _ h2
              split at h
              · rename_i ci fs hm
                split at h
                · rename_i hx
                  cases h
                  intro H locs ls hH hl hw hls T hT X
                  obtain ⟨T', Lc, X', b1, b2, b3, -, b5⟩ := main _ h2 (Nat.le_refl _) H locs ls hH hls T hT X
                  obtain ⟨u1, u2, u3, u4, u5⟩ := X'.leaveThrown (ad q k) (g := F0 m pc ls (rest.map (tr q))) rfl rfl rfl (fun x hx' => by rw [hy.1, hx] at hx'; cases hx') hc.2.2.2.2.2.2.2.1
                  refine ⟨_, b5 k rfl _ u1, .threw (ad q k), u2, u3, rfl, b1, u4, locs ++ Lc, u5, fun x hx => (List.mem_append.mp hx).elim (hl x) (b2 x), fun hz => ?_⟩
                  have hz' : w = false ∧ w' = false := by simpa using hz
                  rw [hw hz'.1, b3 hz'.2]
                  rfl
                · rename_i hx
                  split at h
                  · cases h
                  · rename_i hp hh
                    have a2 := run_len _ _ _ _ _ _ _ _ _ _ h
                    have kk := ih _ _ _ _ _ _ _ _ _ h hc hy (Nat.le_trans hn0 a3) hR (below := below)
                    intro H locs ls hH hl hw hls T hT X
                    obtain ⟨T', Lc, X', b1, b2, b3, -, b5⟩ := main _ h2 (by dsimp only at a2 ⊢; omega) H locs ls hH hls T hT X
                    obtain ⟨rr, c1, c2, cell, q1, q2, q3, q4⟩ := b1.2.2.2.2 k _ hm
                    have hKn := hc.2.2.2.2.2.2.1.1 ci _ c1
                    have hpl : e.platform.magicAccessors = ({} : Platform).magicAccessors := by rw [X.admits.platform]
                    obtain ⟨vm', w1, w2⟩ := find_to (e := e) (s := s) (args := args) (f := F0 m pc ls (rest.map (tr q))) (a := ad q k) (cell := cell) (own := (mY M).cls) (h := mH M) (ci := ci) hpl hc.2.2.2.2.1 hc.2.2.2.2.2.2.2.2.2 hts (fun z hz => by rw [q3] at hz; cases hz) c1 (by rw [q2]; exact hKn.2) hy.2.2.2.2.2.1
                      (mX M) ((T'.setTop (F0 m pc ls (rest.map (tr q)))).pushFrame (.throwing (ad q k))) hp (by rw [Stand.throwing_vm]; exact X'.warmed) (by rw [Stand.throwing_heap]; exact q1) hh
                    have X2 := X'.noted w1
                    obtain ⟨t, t1, t2⟩ := kk T'.heap (locs ++ Lc) ls b1 (fun x hx => (List.mem_append.mp hx).elim (hl x) (b2 x)) (fun hz => by
                      have hz' : w = false ∧ w' = false := by simpa using hz
                      rw [hw hz'.1, b3 hz'.2]
                      rfl) hls (T'.setVm vm') rfl X2
                    refine ⟨t, b5 k rfl t (caught_x X' rfl w1 (fun Q E d acts => ?_) t1), t2⟩
                    rw [W.findHandler_eq (meth := meth) (code := c) (by rw [Stand.throwing_vm]; exact X'.method') X'.code, hy.1]
                    exact w2 Q E d acts
              · cases h
          · cases h
      · rename_i ci h1
        split at h
        · rename_i h99
          subst h99
          split at h
          · rename_i mem' h2
            obtain ⟨rfl, h4⟩ := one_cop h1
            obtain ⟨n, a, vs, g3, rfl, k1, k2, k3, k4, k5, rfl⟩ := cop_spec h2
            have a2 := run_len _ _ _ _ _ _ _ _ _ _ h
            have hl : (mem ++ [Sum.inl (FieldType.object "java/lang/Object", vs ++ List.replicate (n.toNatClampNeg - vs.length) Value.null)] : AM).length = mem.length + 1 := by simp
            rw [hl] at a2
            exact gg_cop hc hy.2.2 (fetch_new hf (fun _ _ _ _ z => by cases z)) (fetch_new g3 (fun _ _ _ _ z => by cases z)) h4 k1 k2 k3 k4 k5 hn0 ⟨by omega, by omega⟩ ⟨by omega, by omega⟩ (ih _ _ _ _ _ _ _ _ _ h hc hy (by rw [hl]; omega) hR)
          · cases h
        · rename_i h99
          split at h
          · rename_i j g3 g4 g7
            split at h
            · rename_i hcond
              cases h
              obtain ⟨k, rr, rfl, o1, o2, o3⟩ := one_thr h1 h99
              refine gg_throw hc hy hf g3 g4 g7 o1 o2 o3 hcond.2.2.2.1 hcond.2.2.1 hcond.2.1 hcond.1 hcond.2.2.2.2 ?_
              have hl : (mem ++ [Sum.inr (ci, [])] : AM).length = mem.length + 1 := by simp
              have := hcond.2.1
              dsimp only at R3 R4
              rw [hl] at R3 R4
              exact ⟨by omega, by omega, by omega, by omega⟩
            · cases h
          · cases h
end SOUND
