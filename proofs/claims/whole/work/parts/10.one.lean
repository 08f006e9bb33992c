/-! One instruction that goes on. -/
theorem fetch_dec {M : MI} {pc : Nat} {i : Instr} (h : fetch M pc = some i) : decode (mB M) pc = .ok (i, ilen i) ∨ ∃ (d lo hi : Int) (offs : Array Int) (n : Nat), i = .tableswitch d lo hi offs ∧ decode (mB M) pc = .ok (i, n) := by
  unfold fetch at h
  split at h
  · rename_i i' n hd
    split at h
    · cases h
      exact Or.inr ⟨_, _, _, _, n, rfl, hd⟩
    · split at h
      · rename_i hn
        cases h
        rw [hn] at hd
        exact Or.inl hd
      · cases h
  · cases h
section ONE
variable {p : Program} {l : Launch} {e : Env} {R : Room} {s : State} {m : MethodId} {args : Array Value} {below : List Frame} {meth : Method} {c : Code}
variable {q : AQ} {D : va_G} {H0 : Heap} {M : MI} {n0 : Nat} {Q : State → Prop} {w : Bool} {pc : Nat} {L : AL} {st : List Value} {mem : AM} {pc' : Nat} {L' : AL} {st' : List Value} {mem' : AM}
theorem gg_tbl (hc : Cx p e s m args meth c D M) {d lo hi : Int} {offs : Array Int} {n : Nat} (hd : decode (mB M) pc = .ok (.tableswitch d lo hi offs, n)) (h1 : one M (.tableswitch d lo hi offs) pc L st mem = some (.inl (pc', L', st', mem')))
    (k : GG p l e R s m args below meth c q D H0 M n0 Q (w || false) pc' L' st' mem') : GG p l e R s m args below meth c q D H0 M n0 Q w pc L st mem := by
  dsimp only [one] at h1
  split at h1
  · rename_i x r
    split at h1
    · rename_i hx
      obtain ⟨rfl, rfl, rfl, t, ht, h2, -⟩ := jmp_eq h1
      intro H locs ls hH hl hw hls
      have := k H locs ls hH hl (w0 hw) hls
      rw [h2 rfl] at this
      exact lv_tableOut hc.1 hc.2.1 hd hx ht this
    · rename_i hx
      split at h1
      · rename_i o ho
        obtain ⟨rfl, rfl, rfl, t, ht, h2, -⟩ := jmp_eq h1
        intro H locs ls hH hl hw hls
        have := k H locs ls hH hl (w0 hw) hls
        rw [h2 rfl] at this
        exact lv_tableIn hc.1 hc.2.1 hd (fun z => hx (Or.inl z)) (fun z => hx (Or.inr z)) ho ht this
      · cases h1
  · cases h1
set_option maxHeartbeats 4000000 in
theorem one_go (hc : Cx p e s m args meth c D M) (hkx : KX q H0 s) {i : Instr} (hf : fetch M pc = some i) (h1 : one M i pc L st mem = some (.inl (pc', L', st', mem'))) (hn0 : n0 ≤ mem.length) (hroom : mem'.length - n0 ≤ R.cells ∧ 100 * (mem'.length - n0) ≤ R.slots) (hfr : 1 ≤ R.frames ∧ 100 ≤ R.locals)
    (k : GG p l e R s m args below meth c q D H0 M n0 Q (w || wrs i) pc' L' st' mem') : GG p l e R s m args below meth c q D H0 M n0 Q w pc L st mem := by
  rcases fetch_dec hf with hd | ⟨d, lo, hi, offs, n, rfl, hd⟩
  rotate_left
  · exact gg_tbl hc hd h1 k
  cases i
  case iadd => exact gg_i2 h1 k (fun kk => lv_iadd hc.1 hc.2.1 hd kk)
  case isub => exact gg_i2 h1 k (fun kk => lv_isub hc.1 hc.2.1 hd kk)
  case imul => exact gg_i2 h1 k (fun kk => lv_imul hc.1 hc.2.1 hd kk)
  case iand => exact gg_i2 h1 k (fun kk => lv_iand hc.1 hc.2.1 hd kk)
  case ior => exact gg_i2 h1 k (fun kk => lv_ior hc.1 hc.2.1 hd kk)
  case ixor => exact gg_i2 h1 k (fun kk => lv_ixor hc.1 hc.2.1 hd kk)
  case ishl => exact gg_i2 h1 k (fun kk => lv_ishl hc.1 hc.2.1 hd kk)
  case ishr => exact gg_i2 h1 k (fun kk => lv_ishr hc.1 hc.2.1 hd kk)
  case ladd => exact gg_l2 h1 k (fun kk => lv_ladd hc.1 hc.2.1 hd kk)
  case lsub => exact gg_l2 h1 k (fun kk => lv_lsub hc.1 hc.2.1 hd kk)
  case lmul => exact gg_l2 h1 k (fun kk => lv_lmul hc.1 hc.2.1 hd kk)
  case lxor => exact gg_l2 h1 k (fun kk => lv_lxor hc.1 hc.2.1 hd kk)
  case aconst_null =>
    cases h1
    intro H locs ls hH hl hw hls
    exact lv_null hc.1 hc.2.1 hd (k H locs ls hH hl (w0 hw) hls)
  case iconst v =>
    cases h1
    intro H locs ls hH hl hw hls
    exact lv_iconst hc.1 hc.2.1 hd rfl (k H locs ls hH hl (w0 hw) hls)
  case bipush v =>
    cases h1
    intro H locs ls hH hl hw hls
    exact lv_bipush hc.1 hc.2.1 hd rfl (k H locs ls hH hl (w0 hw) hls)
  case sipush v =>
    cases h1
    intro H locs ls hH hl hw hls
    exact lv_sipush hc.1 hc.2.1 hd rfl (k H locs ls hH hl (w0 hw) hls)
  case lconst v =>
    cases h1
    intro H locs ls hH hl hw hls
    exact lv_lconst hc.1 hc.2.1 hd rfl (k H locs ls hH hl (w0 hw) hls)
  case ldc j =>
    dsimp only [one] at h1
    split at h1
    · rename_i v hv
      cases h1
      intro H locs ls hH hl hw hls
      obtain ⟨own, o1, o2⟩ := rK_ok hv
      have hown : s.vm.findClass own = some m.cls := by rw [Option.some.inj (o1.symm.trans hc.2.2.2.2.2.2.2.2.2)]; exact hc.2.2.2.2.1
      exact lv_ldc hc.1 hc.2.1 hown (hc.2.2.2.2.2.1 _ o2) hd (k H locs ls hH hl (w0 hw) hls)
    · cases h1
  case ldc_w j =>
    dsimp only [one] at h1
    split at h1
    · rename_i v hv
      cases h1
      intro H locs ls hH hl hw hls
      obtain ⟨own, o1, o2⟩ := rK_ok hv
      have hown : s.vm.findClass own = some m.cls := by rw [Option.some.inj (o1.symm.trans hc.2.2.2.2.2.2.2.2.2)]; exact hc.2.2.2.2.1
      exact lv_ldcw hc.1 hc.2.1 hown (hc.2.2.2.2.2.1 _ o2) hd (k H locs ls hH hl (w0 hw) hls)
    · cases h1
  case ldc2_w j =>
    dsimp only [one] at h1
    split at h1
    · rename_i v hv
      cases h1
      intro H locs ls hH hl hw hls
      obtain ⟨own, o1, o2⟩ := rJ_ok hv
      have hown : s.vm.findClass own = some m.cls := by rw [Option.some.inj (o1.symm.trans hc.2.2.2.2.2.2.2.2.2)]; exact hc.2.2.2.2.1
      exact lv_ldc2 hc.1 hc.2.1 hown (hc.2.2.2.2.2.1 _ o2) hd (k H locs ls hH hl (w0 hw) hls)
    · cases h1
  case iload j => exact gg_ldI h1 k (fun hx kk => lv_iload hc.1 hc.2.1 hd hx kk)
  case iload_n j => exact gg_ldI h1 k (fun hx kk => lv_iload_n hc.1 hc.2.1 hd rfl hx kk)
  case lload j => exact gg_ldL h1 k (fun hx kk => lv_lload hc.1 hc.2.1 hd hx kk)
  case lload_n j => exact gg_ldL h1 k (fun hx kk => lv_lload_n hc.1 hc.2.1 hd rfl hx kk)
  case aload j => exact gg_ldA h1 k (fun hx kk => lv_aload hc.1 hc.2.1 hd hx kk)
  case aload_n j => exact gg_ldA h1 k (fun hx kk => lv_aload_n hc.1 hc.2.1 hd rfl hx kk)
  case istore j => exact gg_stI h1 k (fun hx hi hl kk => lv_istore hc.1 hc.2.1 hd hx hi hl kk)
  case istore_n j => exact gg_stI h1 k (fun hx hi hl kk => lv_istore_n hc.1 hc.2.1 hd rfl hx hi hl kk)
  case lstore j => exact gg_stL h1 k (fun hx hi hl kk => lv_lstore hc.1 hc.2.1 hd hx hi hl kk)
  case lstore_n j => exact gg_stL h1 k (fun hx hi hl kk => lv_lstore_n hc.1 hc.2.1 hd rfl hx hi hl kk)
  case astore j => exact gg_stA h1 k (fun hx hi hl kk => lv_astore hc.1 hc.2.1 hd hx hi hl kk)
  case astore_n j => exact gg_stA h1 k (fun hx hi hl kk => lv_astore_n hc.1 hc.2.1 hd rfl hx hi hl kk)
  case iinc j n =>
    dsimp only [one] at h1
    split at h1
    · rename_i x hx
      split at h1
      · rename_i hj
        cases h1
        intro H locs ls hH hl hw hls
        have hm : (j, Value.int x) ∈ trL q L := by
          unfold lget at hx
          cases hf : L.find? (fun q => q.1 == j) with
          | none => rw [hf] at hx; cases hx
          | some y =>
            rw [hf] at hx
            have h2 : y.2 = .int x := by simpa using hx
            have h3 : y.1 = j := by simpa using List.find?_some hf
            exact List.mem_map.mpr ⟨y, List.mem_of_find?_eq_some hf, by rw [h2, h3]; rfl⟩
        obtain ⟨kx, hkx⟩ := List.getElem?_of_mem hm
        exact lv_iinc hc.1 hc.2.1 hd hls hkx rfl hj (trL_put1 q L j (.int (x + Int32.ofInt n))) (fun ls' h' => k H locs ls' hH hl (w0 hw) h')
      · cases h1
    · cases h1
  case idiv =>
    dsimp only [one] at h1
    split at h1
    · split at h1
      · cases h1
      · rename_i hy
        cases h1
        intro H locs ls hH hl hw hls
        exact lv_idiv hc.1 hc.2.1 hd hy (k H locs ls hH hl (w0 hw) hls)
    · cases h1
  case irem =>
    dsimp only [one] at h1
    split at h1
    · split at h1
      · cases h1
      · rename_i hy
        cases h1
        intro H locs ls hH hl hw hls
        exact lv_irem hc.1 hc.2.1 hd hy (k H locs ls hH hl (w0 hw) hls)
    · cases h1
  case ldiv =>
    dsimp only [one] at h1
    split at h1
    · split at h1
      · cases h1
      · rename_i hy
        cases h1
        intro H locs ls hH hl hw hls
        exact lv_ldiv hc.1 hc.2.1 hd hy (k H locs ls hH hl (w0 hw) hls)
    · cases h1
  case lrem =>
    dsimp only [one] at h1
    split at h1
    · split at h1
      · cases h1
      · rename_i hy
        cases h1
        intro H locs ls hH hl hw hls
        exact lv_lrem hc.1 hc.2.1 hd hy (k H locs ls hH hl (w0 hw) hls)
    · cases h1
  case ineg =>
    dsimp only [one] at h1
    split at h1
    · cases h1
      intro H locs ls hH hl hw hls
      exact lv_ineg hc.1 hc.2.1 hd (k H locs ls hH hl (w0 hw) hls)
    · cases h1
  case lneg =>
    dsimp only [one] at h1
    split at h1
    · cases h1
      intro H locs ls hH hl hw hls
      exact lv_lneg hc.1 hc.2.1 hd (k H locs ls hH hl (w0 hw) hls)
    · cases h1
  case lcmp =>
    dsimp only [one] at h1
    split at h1
    · cases h1
      intro H locs ls hH hl hw hls
      exact W.lcmp hc.1 hc.2.1 hd (k H locs ls hH hl (w0 hw) hls)
    · cases h1
  case i2l =>
    dsimp only [one] at h1
    split at h1
    · cases h1
      intro H locs ls hH hl hw hls
      exact lv_i2l hc.1 hc.2.1 hd rfl (k H locs ls hH hl (w0 hw) hls)
    · cases h1
  case dup =>
    dsimp only [one] at h1
    split at h1
    · split at h1
      · rename_i hv
        cases h1
        intro H locs ls hH hl hw hls
        exact lv_dup hc.1 hc.2.1 hd (by rw [tr_cat]; exact hv) (k H locs ls hH hl (w0 hw) hls)
      · cases h1
    · cases h1
  case pop =>
    dsimp only [one] at h1
    split at h1
    · split at h1
      · rename_i hv
        cases h1
        intro H locs ls hH hl hw hls
        exact lv_pop hc.1 hc.2.1 hd (by rw [tr_cat]; exact hv) (k H locs ls hH hl (w0 hw) hls)
      · cases h1
    · cases h1
  case dup_x1 =>
    dsimp only [one] at h1
    split at h1
    · split at h1
      · rename_i hv
        cases h1
        intro H locs ls hH hl hw hls
        exact lv_dup_x1 hc.1 hc.2.1 hd (by rw [tr_cat]; exact hv.1) (by rw [tr_cat]; exact hv.2) (k H locs ls hH hl (w0 hw) hls)
      · cases h1
    · cases h1
  case dup2 =>
    dsimp only [one] at h1
    split at h1
    · split at h1
      · rename_i hv
        cases h1
        intro H locs ls hH hl hw hls
        exact lv_dup2_11 hc.1 hc.2.1 hd (by rw [tr_cat]; exact hv.1) (by rw [tr_cat]; exact hv.2) (k H locs ls hH hl (w0 hw) hls)
      · cases h1
    · cases h1
  case ifCond cd off =>
    dsimp only [one] at h1
    split at h1
    · exact gg_if hc hd h1 k
    · cases h1
  case if_icmp cd off =>
    dsimp only [one] at h1
    split at h1
    · exact gg_icmp hc hd h1 k
    · cases h1
  case goto off =>
    obtain ⟨rfl, rfl, rfl, t, ht, h2, -⟩ := jmp_eq h1
    intro H locs ls hH hl hw hls
    have := k H locs ls hH hl (w0 hw) hls
    rw [h2 rfl] at this
    exact lv_goto hc.1 hc.2.1 hd ht this
  case getfield j =>
    dsimp only [one] at h1
    split at h1
    · split at h1
      · rename_i ci j2 lk hr
        split at h1
        · rename_i c2 fs hm
          split at h1
          · rename_i he
            subst he
            split at h1
            · rename_i v hv
              cases h1
              exact gg_getf hc hd hr hm hv k
            · cases h1
          · cases h1
        · cases h1
      · cases h1
    · cases h1
  case putfield j =>
    dsimp only [one] at h1
    split at h1
    · split at h1
      · rename_i ci j2 lk hr
        split at h1
        · rename_i c2 fs hm
          split at h1
          · rename_i he
            obtain ⟨rfl, e1, e2, e3, e4⟩ := he
            cases h1
            exact gg_putf hc hd hr hm e1 e2 e3 e4 k
          · cases h1
        · cases h1
      · cases h1
    · cases h1
  case iaload =>
    obtain ⟨j, a, r, vs, v, rfl, hm, hj, hv, rfl, rfl, rfl, rfl⟩ := aLd_eq h1
    intro H locs ls hH hl hw hls
    obtain ⟨cell, c1, c2, c3, c4, c5⟩ := hH.2.2.2.2 a _ hm
    obtain ⟨g1, g2⟩ := arr_get c5 hj hv
    exact W.iald hc.1 hc.2.1 c1 c2 c3 g1 g2 rfl rfl hd (k H locs ls hH hl (w0 hw) hls)
  case laload =>
    obtain ⟨j, a, r, vs, v, rfl, hm, hj, hv, rfl, rfl, rfl, rfl⟩ := aLd_eq h1
    intro H locs ls hH hl hw hls
    obtain ⟨cell, c1, c2, c3, c4, c5⟩ := hH.2.2.2.2 a _ hm
    obtain ⟨g1, g2⟩ := arr_get c5 hj hv
    exact W.lald hc.1 hc.2.1 c1 c2 c3 g1 g2 rfl rfl hd (k H locs ls hH hl (w0 hw) hls)
  case baload =>
    obtain ⟨j, a, r, vs, v, rfl, hm, hj, hv, rfl, rfl, rfl, rfl⟩ := aLd_eq h1
    intro H locs ls hH hl hw hls
    obtain ⟨cell, c1, c2, c3, c4, c5⟩ := hH.2.2.2.2 a _ hm
    obtain ⟨g1, g2⟩ := arr_get c5 hj hv
    exact W.zald hc.1 hc.2.1 c1 c2 c3 g1 g2 rfl rfl hd (k H locs ls hH hl (w0 hw) hls)
  case iastore =>
    dsimp only [one] at h1
    split at h1
    · rename_i x r
      exact gg_ast (i := .iastore) rfl (Or.inl rfl) h1 (Or.inl ⟨_, _, rfl⟩) k (fun c1 c2 c3 g1 e1 kk => by cases e1; exact W.iast hc.1 hc.2.1 c1 c2 c3 g1 rfl rfl hd kk)
    · cases h1
  case lastore =>
    dsimp only [one] at h1
    split at h1
    · rename_i x r
      exact gg_ast (i := .lastore) rfl (Or.inr (Or.inl rfl)) h1 (Or.inr ⟨_, _, rfl⟩) k (fun c1 c2 c3 g1 e1 kk => by cases e1; exact W.last hc.1 hc.2.1 c1 c2 c3 g1 rfl rfl hd kk)
    · cases h1
  case bastore =>
    dsimp only [one] at h1
    split at h1
    · rename_i x r
      exact gg_ast (i := .bastore) rfl (Or.inr (Or.inr rfl)) h1 (Or.inl ⟨_, _, rfl⟩) k (fun c1 c2 c3 g1 e1 kk => by cases e1; exact W.zast hc.1 hc.2.1 c1 c2 c3 g1 rfl rfl hd kk)
    · cases h1
  case aaload =>
    dsimp only [one] at h1
    split at h1
    · rename_i j a r
      split at h1
      · rename_i C vs hm
        split at h1
        · cases h1
        · rename_i hj
          split at h1
          · rename_i v hv
            cases h1
            intro H locs ls hH hl hw hls
            obtain ⟨cell, c1, c2, c3, c4, c5⟩ := hH.2.2.2.2 a _ hm
            obtain ⟨g1, g2⟩ := arr_get c5 hj hv
            exact W.aald hc.1 hc.2.1 c1 c2 rfl c3 g1 g2 rfl rfl hd (k H locs ls hH hl (w0 hw) hls)
          · cases h1
      · cases h1
    · cases h1
  case arraylength =>
    dsimp only [one] at h1
    split at h1
    · rename_i a r
      split at h1
      · rename_i ty vs hm
        cases h1
        intro H locs ls hH hl hw hls
        obtain ⟨cell, c1, c2, c3, c4, c5⟩ := hH.2.2.2.2 a _ hm
        exact W.alen hc.1 hc.2.1 c1 c2 (by rw [c5]; simp) rfl rfl hd (k H locs ls hH hl (w0 hw) hls)
      · cases h1
    · cases h1
  case newarray t =>
    dsimp only [one] at h1
    split at h1
    · rename_i n r ty ht
      split at h1
      · cases h1
      · rename_i hn
        cases h1
        exact gg_newa ht hc hd hn hn0 (by simpa using hroom) k
    · cases h1
  case new j =>
    dsimp only [one] at h1
    split at h1
    · rename_i ci hr
      split at h1
      · rename_i rr t hcl htt
        split at h1
        · cases h1
        · cases h1
          exact gg_new hc hd hr hcl htt hn0 (by simpa using hroom) k
      · cases h1
    · cases h1
  case invokespecial j =>
    dsimp only [one] at h1
    split at h1
    · rename_i hr
      split at h1
      · rename_i a r
        split at h1
        · rename_i h8
          cases h1
          intro H locs ls hH hl hw hls
          obtain ⟨-, own, o1, o2⟩ := rX_ok hr
          · have hown : s.vm.findClass own = some m.cls := by rw [Option.some.inj (o1.symm.trans hc.2.2.2.2.2.2.2.2.2)]; exact hc.2.2.2.2.1
            have hcat : ((st'.map (tr q)).map fun v => v.category).sum = (st'.map fun v => v.category).sum := by simp [tr_cat, Function.comp_def]
            refine W.objInit hc.1 hc.2.1 hown (hc.2.2.2.2.2.1 _ o2) (hc.2.2.2.2.2.1 _ (lw_at 98 (by decide +kernel) rfl)) (hc.2.2.2.2.2.1 _ (lw_at 99 (by decide +kernel) rfl)) rfl (by rw [hc.2.2.1]; exact hls.1) rfl hd hfr.1 ?_ (k H locs ls hH hl (w0 hw) hls)
            show 2 * 0 + ((st'.map (tr q)).map fun v => v.category).sum + 12 ≤ R.locals
            rw [hcat]
            omega
        · cases h1
      · cases h1
    · cases h1
    · split at h1
      · split at h1
        · split at h1 <;> cases h1
        · cases h1
      · cases h1
  case invokestatic j =>
    dsimp only [one] at h1
    split at h1
    · rename_i z hr
      split at h1
      · rename_i n dp b2 sp a r
        split at h1
        · rename_i vs us hm hv
          split at h1
          · rename_i hk
            obtain ⟨k1, rfl, rfl, k4, k5, k6, k7, k8⟩ := hk
            cases h1
            exact gg_copy hc hd hr hm hv k1 k4 k5 k6 k7 k8 hfr k
          · cases h1
        · cases h1
      · cases h1
    · split at h1
      · split at h1 <;> cases h1
      · cases h1
  case getstatic j =>
    dsimp only [one] at h1
    split at h1
    · rename_i hk
      obtain ⟨k1, rfl⟩ := hk
      cases h1
      exact gg_gets hc hkx hd k1 k
    · cases h1
  case if_acmp cd off =>
    dsimp only [one] at h1
    split at h1
    · exact gg_acmp hc hd h1 k
    · cases h1
  case checkcast j =>
    dsimp only [one] at h1
    split at h1
    · split at h1
      · rename_i ci c2 fs hr hm
        split at h1
        · rename_i hk
          obtain ⟨rfl, rfl⟩ := hk
          cases h1
          exact gg_cast hc hd hr hm k
        · cases h1
      · cases h1
    · cases h1
  case anewarray j =>
    dsimp only [one] at h1
    split at h1
    · split at h1
      · rename_i C hr
        split at h1
        · cases h1
        · rename_i hn
          cases h1
          exact gg_anew hc hd hr hn hn0 (by simpa using hroom) k
      · cases h1
    · cases h1
  case aastore =>
    dsimp only [one] at h1
    split at h1
    · split at h1
      · rename_i C vs ci fs hm hv
        split at h1
        · rename_i hk
          cases h1
          exact gg_aast hc hd hm hv hk.1 hk.2.1 hk.2.2.1 hk.2.2.2 k
        · cases h1
      · cases h1
    · cases h1
  case invokevirtual j =>
    dsimp only [one] at h1
    split at h1
    · split at h1
      · split at h1
        · split at h1
          · split at h1 <;> cases h1
          · cases h1
        · cases h1
      · cases h1
    · split at h1 <;> cases h1
  case ireturn =>
    dsimp only [one] at h1
    split at h1
    · cases h1
    · split at h1 <;> cases h1
    · cases h1
  case lreturn =>
    dsimp only [one] at h1
    split at h1 <;> cases h1
  case areturn =>
    dsimp only [one] at h1
    split at h1 <;> cases h1
  case return_ =>
    dsimp only [one] at h1
    split at h1 <;> cases h1
  case tableswitch => exact gg_tbl hc hd h1 k
  all_goals (first | (cases h1; done) | skip)
end ONE
