/-! The law: one call. -/
section S9A
variable {φ : Bool} {d : Nat} {M : MI} {n0 pc : Nat} {L : AL} {st : List Value} {mem : AM} {o : Option Value ⊕ Nat} {mem' : AM}
theorem Rg.sld {N : Nat} {f : Int → Int} {z : Int} (pc' : Nat) (hf : fetch M pc = some .iaload) (hp : pc + 1 = pc') (hm : mem[0]? = some (.inl (.int, aI N f))) (hz : 0 ≤ z ∧ z < N) (hN : N ≤ 2560) (kk : Rg φ d M n0 pc' L (.int (iI (f z)) :: st) mem o mem') : Rg φ d M n0 pc L (.int (iI z) :: .ref 0 :: st) mem o mem' :=
  Rg.iald pc' hf hp hm (ix_iI (by omega)) (row_get (g := fun x => Value.int (iI x)) hz) kk
end S9A
section R9A
variable {s0 : AC} {n n0 N : Nat} {mem : AM} {i : Int} {sc : Int → Int}
theorem lwc_amount (hs : s0 = .inl (.int, aI N sc)) (hN : N ≤ 2560) (hi : 0 ≤ i ∧ i + 4 < N) (hb : ∀ z, -2147483648 ≤ sc z ∧ sc z < 2147483648) (h : INV s0 n mem) : ∃ mem2, INV s0 (n + 1) mem2 ∧ ∀ o mem', Rg false 31 m_Law n0 1459 [(4, .int (iI i)), (0, .ref 0), (1, .ref 2), (2, .ref 168), (3, .ref 218)] [] mem2 o mem' → Rg false 31 m_Law n0 156 [(4, .int (iI i)), (0, .ref 0), (1, .ref 2), (2, .ref 168), (3, .ref 218)] [] mem o mem' := by
  have h0 := h.k0
  rw [hs] at h0
  obtain ⟨k, o1, mem1, mem2, hk, hc1, h01, ⟨fs1, h168⟩, hc2, hc3, hI, hQ⟩ := p_amount (hb (i + 1)) (hb (i + 2)) h
  obtain rfl := hQ
  rw [hs] at h01
  obtain ⟨fs2, h1682⟩ := hI.k168
  refine ⟨mem2, hI, fun o mem' hg => ?_⟩
  refine Rg.step 157 F_Law_156 rfl (fun _ => rfl) ?_
  refine Rg.step 158 F_Law_157 rfl (fun _ => rfl) ?_
  refine Rg.step 160 F_Law_158 rfl (fun _ => rfl) ?_
  refine Rg.step 161 F_Law_160 rfl (fun _ => rfl) ?_
  refine Rg.addI 162 F_Law_161 rfl ?_
  refine Rg.sld 163 F_Law_162 rfl h0 (by omega) hN ?_
  refine Rg.step 164 F_Law_163 rfl (fun _ => rfl) ?_
  refine Rg.step 166 F_Law_164 rfl (fun _ => rfl) ?_
  refine Rg.step 167 F_Law_166 rfl (fun _ => rfl) ?_
  refine Rg.addI 168 F_Law_167 rfl ?_
  refine Rg.sld 169 F_Law_168 rfl h0 (by omega) hN ?_
  refine Rg.call 172 F_Law_169 rfl (one_S (by decide +kernel) rM_0_95 (by decide) (by simp) rfl rfl) (Nat.le_of_ble_eq_true rfl) hc1 ?_
  refine Rg.step 174 F_Law_172 rfl (fun _ => rfl) ?_
  refine Rg.step 175 F_Law_174 rfl (fun _ => rfl) ?_
  refine Rg.step 176 F_Law_175 rfl (fun _ => rfl) ?_
  refine Rg.step 178 F_Law_176 rfl (fun _ => rfl) ?_
  refine Rg.step 179 F_Law_178 rfl (fun _ => rfl) ?_
  refine Rg.addI 180 F_Law_179 rfl ?_
  refine Rg.sld 181 F_Law_180 rfl h01 (by omega) hN ?_
  refine Rg.step 182 F_Law_181 rfl (fun _ => rfl) ?_
  refine Rg.step 184 F_Law_182 rfl (fun _ => rfl) ?_
  refine Rg.step 185 F_Law_184 rfl (fun _ => rfl) ?_
  refine Rg.addI 186 F_Law_185 rfl ?_
  refine Rg.sld 187 F_Law_186 rfl h01 (by omega) hN ?_
  refine Rg.call 190 F_Law_187 rfl (one_V rM_0_100 (by decide) (by simp) rfl rfl h168 rfl) (Nat.le_of_ble_eq_true rfl) hc2 ?_
  refine Rg.step 191 F_Law_190 rfl (fun _ => rfl) ?_
  refine Rg.call 194 F_Law_191 rfl (one_V rM_0_101 (by decide) (by simp) rfl rfl h1682 rfl) (Nat.le_of_ble_eq_true rfl) hc3 ?_
  refine Rg.step 196 F_Law_194 rfl (fun _ => rfl) ?_
  refine Rg.iceq 201 199 F_Law_196 rfl rfl (fun _ => ?_) (fun z => absurd rfl z)
  refine Rg.step 1459 F_Law_201 rfl (fun _ => rfl) ?_
  exact Rg.weak hg (by simp [lput1, lput2, Value.category, fi0, fi1, fi2, fi3] <;> first | rfl | exact ⟨rfl, rfl⟩) (by simp [lput1, lput2, Value.category, fi0, fi1, fi2, fi3] <;> first | rfl | exact ⟨rfl, rfl⟩)
theorem lwc_moment (hs : s0 = .inl (.int, aI N sc)) (hN : N ≤ 2560) (hi : 0 ≤ i ∧ i + 4 < N) (hb : ∀ z, -2147483648 ≤ sc z ∧ sc z < 2147483648) (h : INV s0 n mem) : ∃ mem2, INV s0 (n + 1) mem2 ∧ ∀ o mem', Rg false 31 m_Law n0 1459 [(4, .int (iI i)), (0, .ref 0), (1, .ref 2), (2, .ref 168), (3, .ref 218)] [] mem2 o mem' → Rg false 31 m_Law n0 204 [(4, .int (iI i)), (0, .ref 0), (1, .ref 2), (2, .ref 168), (3, .ref 218)] [] mem o mem' := by
  have h0 := h.k0
  rw [hs] at h0
  obtain ⟨k, o1, mem1, mem2, hk, hc1, h01, ⟨fs1, h168⟩, hc2, hc3, hI, hQ⟩ := p_moment (hb (i + 1)) (hb (i + 2)) h
  obtain rfl := hQ
  rw [hs] at h01
  obtain ⟨fs2, h1682⟩ := hI.k168
  refine ⟨mem2, hI, fun o mem' hg => ?_⟩
  refine Rg.step 205 F_Law_204 rfl (fun _ => rfl) ?_
  refine Rg.step 206 F_Law_205 rfl (fun _ => rfl) ?_
  refine Rg.step 208 F_Law_206 rfl (fun _ => rfl) ?_
  refine Rg.step 209 F_Law_208 rfl (fun _ => rfl) ?_
  refine Rg.addI 210 F_Law_209 rfl ?_
  refine Rg.sld 211 F_Law_210 rfl h0 (by omega) hN ?_
  refine Rg.step 212 F_Law_211 rfl (fun _ => rfl) ?_
  refine Rg.step 214 F_Law_212 rfl (fun _ => rfl) ?_
  refine Rg.step 215 F_Law_214 rfl (fun _ => rfl) ?_
  refine Rg.addI 216 F_Law_215 rfl ?_
  refine Rg.sld 217 F_Law_216 rfl h0 (by omega) hN ?_
  refine Rg.call 220 F_Law_217 rfl (one_S (by decide +kernel) rM_0_104 (by decide) (by simp) rfl rfl) (Nat.le_of_ble_eq_true rfl) hc1 ?_
  refine Rg.step 222 F_Law_220 rfl (fun _ => rfl) ?_
  refine Rg.step 223 F_Law_222 rfl (fun _ => rfl) ?_
  refine Rg.step 224 F_Law_223 rfl (fun _ => rfl) ?_
  refine Rg.step 226 F_Law_224 rfl (fun _ => rfl) ?_
  refine Rg.step 227 F_Law_226 rfl (fun _ => rfl) ?_
  refine Rg.addI 228 F_Law_227 rfl ?_
  refine Rg.sld 229 F_Law_228 rfl h01 (by omega) hN ?_
  refine Rg.step 230 F_Law_229 rfl (fun _ => rfl) ?_
  refine Rg.step 232 F_Law_230 rfl (fun _ => rfl) ?_
  refine Rg.step 233 F_Law_232 rfl (fun _ => rfl) ?_
  refine Rg.addI 234 F_Law_233 rfl ?_
  refine Rg.sld 235 F_Law_234 rfl h01 (by omega) hN ?_
  refine Rg.call 238 F_Law_235 rfl (one_V rM_0_106 (by decide) (by simp) rfl rfl h168 rfl) (Nat.le_of_ble_eq_true rfl) hc2 ?_
  refine Rg.step 239 F_Law_238 rfl (fun _ => rfl) ?_
  refine Rg.call 242 F_Law_239 rfl (one_V rM_0_101 (by decide) (by simp) rfl rfl h1682 rfl) (Nat.le_of_ble_eq_true rfl) hc3 ?_
  refine Rg.step 244 F_Law_242 rfl (fun _ => rfl) ?_
  refine Rg.iceq 249 247 F_Law_244 rfl rfl (fun _ => ?_) (fun z => absurd rfl z)
  refine Rg.step 1459 F_Law_249 rfl (fun _ => rfl) ?_
  exact Rg.weak hg (by simp [lput1, lput2, Value.category, fi0, fi1, fi2, fi3] <;> first | rfl | exact ⟨rfl, rfl⟩) (by simp [lput1, lput2, Value.category, fi0, fi1, fi2, fi3] <;> first | rfl | exact ⟨rfl, rfl⟩)
theorem lwc_epsilon (hs : s0 = .inl (.int, aI N sc)) (hN : N ≤ 2560) (hi : 0 ≤ i ∧ i + 4 < N) (hb : ∀ z, -2147483648 ≤ sc z ∧ sc z < 2147483648) (h : INV s0 n mem) : ∃ mem2, INV s0 (n + 1) mem2 ∧ ∀ o mem', Rg false 31 m_Law n0 1459 [(4, .int (iI i)), (0, .ref 0), (1, .ref 2), (2, .ref 168), (3, .ref 218)] [] mem2 o mem' → Rg false 31 m_Law n0 252 [(4, .int (iI i)), (0, .ref 0), (1, .ref 2), (2, .ref 168), (3, .ref 218)] [] mem o mem' := by
  have h0 := h.k0
  rw [hs] at h0
  obtain ⟨k, o1, mem1, mem2, hk, hc1, h01, ⟨fs1, h168⟩, hc2, hc3, hI, hQ⟩ := p_epsilon  h
  obtain rfl := hQ
  rw [hs] at h01
  obtain ⟨fs2, h1682⟩ := hI.k168
  refine ⟨mem2, hI, fun o mem' hg => ?_⟩
  refine Rg.step 253 F_Law_252 rfl (fun _ => rfl) ?_
  refine Rg.call 256 F_Law_253 rfl (one_S (by decide +kernel) rM_0_107 (by decide) (by simp) rfl rfl) (Nat.le_of_ble_eq_true rfl) hc1 ?_
  refine Rg.step 258 F_Law_256 rfl (fun _ => rfl) ?_
  refine Rg.step 259 F_Law_258 rfl (fun _ => rfl) ?_
  refine Rg.call 262 F_Law_259 rfl (one_V rM_0_110 (by decide) (by simp) rfl rfl h168 rfl) (Nat.le_of_ble_eq_true rfl) hc2 ?_
  refine Rg.step 263 F_Law_262 rfl (fun _ => rfl) ?_
  refine Rg.call 266 F_Law_263 rfl (one_V rM_0_101 (by decide) (by simp) rfl rfl h1682 rfl) (Nat.le_of_ble_eq_true rfl) hc3 ?_
  refine Rg.step 268 F_Law_266 rfl (fun _ => rfl) ?_
  refine Rg.iceq 273 271 F_Law_268 rfl rfl (fun _ => ?_) (fun z => absurd rfl z)
  refine Rg.step 1459 F_Law_273 rfl (fun _ => rfl) ?_
  exact Rg.weak hg (by simp [lput1, lput2, Value.category, fi0, fi1, fi2, fi3] <;> first | rfl | exact ⟨rfl, rfl⟩) (by simp [lput1, lput2, Value.category, fi0, fi1, fi2, fi3] <;> first | rfl | exact ⟨rfl, rfl⟩)
theorem lwc_fact (hs : s0 = .inl (.int, aI N sc)) (hN : N ≤ 2560) (hi : 0 ≤ i ∧ i + 4 < N) (hb : ∀ z, -2147483648 ≤ sc z ∧ sc z < 2147483648) (h : INV s0 n mem) : ∃ mem2, INV s0 (n + 1) mem2 ∧ ∀ o mem', Rg false 31 m_Law n0 1459 [(4, .int (iI i)), (0, .ref 0), (1, .ref 2), (2, .ref 168), (3, .ref 218)] [] mem2 o mem' → Rg false 31 m_Law n0 276 [(4, .int (iI i)), (0, .ref 0), (1, .ref 2), (2, .ref 168), (3, .ref 218)] [] mem o mem' := by
  have h0 := h.k0
  rw [hs] at h0
  obtain ⟨k, o1, mem1, mem2, hk, hc1, h01, ⟨fs1, h168⟩, hc2, hc3, hI, hQ⟩ := p_fact (v := (¬ sc (i + 2) = 0)) (hb (i + 1)) h
  obtain rfl := hQ
  rw [hs] at h01
  obtain ⟨fs2, h1682⟩ := hI.k168
  refine ⟨mem2, hI, fun o mem' hg => ?_⟩
  by_cases hz : sc (i + 2) = 0
  · skip
    refine Rg.step 277 F_Law_276 rfl (fun _ => rfl) ?_
    refine Rg.step 278 F_Law_277 rfl (fun _ => rfl) ?_
    refine Rg.step 280 F_Law_278 rfl (fun _ => rfl) ?_
    refine Rg.step 281 F_Law_280 rfl (fun _ => rfl) ?_
    refine Rg.addI 282 F_Law_281 rfl ?_
    refine Rg.sld 283 F_Law_282 rfl h0 (by omega) hN ?_
    refine Rg.step 284 F_Law_283 rfl (fun _ => rfl) ?_
    refine Rg.step 286 F_Law_284 rfl (fun _ => rfl) ?_
    refine Rg.step 287 F_Law_286 rfl (fun _ => rfl) ?_
    refine Rg.addI 288 F_Law_287 rfl ?_
    refine Rg.sld 289 F_Law_288 rfl h0 (by omega) hN ?_
    refine Rg.ifeqI 296 292 F_Law_289 rfl rfl (hb _) (fun _ => ?_) (fun z => absurd hz z)
    refine Rg.cP0 (B := (¬ sc (i + 2) = 0)) 297 F_Law_296 rfl (fun z => z hz) ?_
    refine Rg.call 300 F_Law_297 rfl (one_S (by decide +kernel) rM_0_111 (by decide) (by simp) rfl rfl) (Nat.le_of_ble_eq_true rfl) hc1 ?_
    refine Rg.step 302 F_Law_300 rfl (fun _ => rfl) ?_
    refine Rg.step 303 F_Law_302 rfl (fun _ => rfl) ?_
    refine Rg.step 304 F_Law_303 rfl (fun _ => rfl) ?_
    refine Rg.step 306 F_Law_304 rfl (fun _ => rfl) ?_
    refine Rg.step 307 F_Law_306 rfl (fun _ => rfl) ?_
    refine Rg.addI 308 F_Law_307 rfl ?_
    refine Rg.sld 309 F_Law_308 rfl h01 (by omega) hN ?_
    refine Rg.step 310 F_Law_309 rfl (fun _ => rfl) ?_
    refine Rg.step 312 F_Law_310 rfl (fun _ => rfl) ?_
    refine Rg.step 313 F_Law_312 rfl (fun _ => rfl) ?_
    refine Rg.addI 314 F_Law_313 rfl ?_
    refine Rg.sld 315 F_Law_314 rfl h01 (by omega) hN ?_
    refine Rg.ifeqI 322 318 F_Law_315 rfl rfl (hb _) (fun _ => ?_) (fun z => absurd hz z)
    refine Rg.cP0 (B := (¬ sc (i + 2) = 0)) 323 F_Law_322 rfl (fun z => z hz) ?_
    refine Rg.call 326 F_Law_323 rfl (one_V rM_0_114 (by decide) (by simp) rfl rfl h168 rfl) (Nat.le_of_ble_eq_true rfl) hc2 ?_
    refine Rg.step 327 F_Law_326 rfl (fun _ => rfl) ?_
    refine Rg.call 330 F_Law_327 rfl (one_V rM_0_101 (by decide) (by simp) rfl rfl h1682 rfl) (Nat.le_of_ble_eq_true rfl) hc3 ?_
    refine Rg.step 332 F_Law_330 rfl (fun _ => rfl) ?_
    refine Rg.iceq 337 335 F_Law_332 rfl rfl (fun _ => ?_) (fun z => absurd rfl z)
    refine Rg.step 1459 F_Law_337 rfl (fun _ => rfl) ?_
    exact Rg.weak hg (by simp [lput1, lput2, Value.category, fi0, fi1, fi2, fi3] <;> first | rfl | exact ⟨rfl, rfl⟩) (by simp [lput1, lput2, Value.category, fi0, fi1, fi2, fi3] <;> first | rfl | exact ⟨rfl, rfl⟩)
  · skip
    refine Rg.step 277 F_Law_276 rfl (fun _ => rfl) ?_
    refine Rg.step 278 F_Law_277 rfl (fun _ => rfl) ?_
    refine Rg.step 280 F_Law_278 rfl (fun _ => rfl) ?_
    refine Rg.step 281 F_Law_280 rfl (fun _ => rfl) ?_
    refine Rg.addI 282 F_Law_281 rfl ?_
    refine Rg.sld 283 F_Law_282 rfl h0 (by omega) hN ?_
    refine Rg.step 284 F_Law_283 rfl (fun _ => rfl) ?_
    refine Rg.step 286 F_Law_284 rfl (fun _ => rfl) ?_
    refine Rg.step 287 F_Law_286 rfl (fun _ => rfl) ?_
    refine Rg.addI 288 F_Law_287 rfl ?_
    refine Rg.sld 289 F_Law_288 rfl h0 (by omega) hN ?_
    refine Rg.ifeqI 296 292 F_Law_289 rfl rfl (hb _) (fun z => absurd z hz) (fun _ => ?_)
    refine Rg.cP1 (B := (¬ sc (i + 2) = 0)) 293 F_Law_292 rfl hz ?_
    refine Rg.step 297 F_Law_293 rfl (fun _ => rfl) ?_
    refine Rg.call 300 F_Law_297 rfl (one_S (by decide +kernel) rM_0_111 (by decide) (by simp) rfl rfl) (Nat.le_of_ble_eq_true rfl) hc1 ?_
    refine Rg.step 302 F_Law_300 rfl (fun _ => rfl) ?_
    refine Rg.step 303 F_Law_302 rfl (fun _ => rfl) ?_
    refine Rg.step 304 F_Law_303 rfl (fun _ => rfl) ?_
    refine Rg.step 306 F_Law_304 rfl (fun _ => rfl) ?_
    refine Rg.step 307 F_Law_306 rfl (fun _ => rfl) ?_
    refine Rg.addI 308 F_Law_307 rfl ?_
    refine Rg.sld 309 F_Law_308 rfl h01 (by omega) hN ?_
    refine Rg.step 310 F_Law_309 rfl (fun _ => rfl) ?_
    refine Rg.step 312 F_Law_310 rfl (fun _ => rfl) ?_
    refine Rg.step 313 F_Law_312 rfl (fun _ => rfl) ?_
    refine Rg.addI 314 F_Law_313 rfl ?_
    refine Rg.sld 315 F_Law_314 rfl h01 (by omega) hN ?_
    refine Rg.ifeqI 322 318 F_Law_315 rfl rfl (hb _) (fun z => absurd z hz) (fun _ => ?_)
    refine Rg.cP1 (B := (¬ sc (i + 2) = 0)) 319 F_Law_318 rfl hz ?_
    refine Rg.step 323 F_Law_319 rfl (fun _ => rfl) ?_
    refine Rg.call 326 F_Law_323 rfl (one_V rM_0_114 (by decide) (by simp) rfl rfl h168 rfl) (Nat.le_of_ble_eq_true rfl) hc2 ?_
    refine Rg.step 327 F_Law_326 rfl (fun _ => rfl) ?_
    refine Rg.call 330 F_Law_327 rfl (one_V rM_0_101 (by decide) (by simp) rfl rfl h1682 rfl) (Nat.le_of_ble_eq_true rfl) hc3 ?_
    refine Rg.step 332 F_Law_330 rfl (fun _ => rfl) ?_
    refine Rg.iceq 337 335 F_Law_332 rfl rfl (fun _ => ?_) (fun z => absurd rfl z)
    refine Rg.step 1459 F_Law_337 rfl (fun _ => rfl) ?_
    exact Rg.weak hg (by simp [lput1, lput2, Value.category, fi0, fi1, fi2, fi3] <;> first | rfl | exact ⟨rfl, rfl⟩) (by simp [lput1, lput2, Value.category, fi0, fi1, fi2, fi3] <;> first | rfl | exact ⟨rfl, rfl⟩)
theorem lwc_number (hs : s0 = .inl (.int, aI N sc)) (hN : N ≤ 2560) (hi : 0 ≤ i ∧ i + 4 < N) (hb : ∀ z, -2147483648 ≤ sc z ∧ sc z < 2147483648) (h : INV s0 n mem) : ∃ mem2, INV s0 (n + 1) mem2 ∧ ∀ o mem', Rg false 31 m_Law n0 1459 [(4, .int (iI i)), (0, .ref 0), (1, .ref 2), (2, .ref 168), (3, .ref 218)] [] mem2 o mem' → Rg false 31 m_Law n0 340 [(4, .int (iI i)), (0, .ref 0), (1, .ref 2), (2, .ref 168), (3, .ref 218)] [] mem o mem' := by
  have h0 := h.k0
  rw [hs] at h0
  obtain ⟨k, o1, mem1, mem2, hk, hc1, h01, ⟨fs1, h168⟩, hc2, hc3, hI, hQ⟩ := p_number (hb (i + 1)) h
  obtain rfl := hQ
  rw [hs] at h01
  obtain ⟨fs2, h1682⟩ := hI.k168
  refine ⟨mem2, hI, fun o mem' hg => ?_⟩
  refine Rg.step 341 F_Law_340 rfl (fun _ => rfl) ?_
  refine Rg.step 342 F_Law_341 rfl (fun _ => rfl) ?_
  refine Rg.step 344 F_Law_342 rfl (fun _ => rfl) ?_
  refine Rg.step 345 F_Law_344 rfl (fun _ => rfl) ?_
  refine Rg.addI 346 F_Law_345 rfl ?_
  refine Rg.sld 347 F_Law_346 rfl h0 (by omega) hN ?_
  refine Rg.call 350 F_Law_347 rfl (one_S (by decide +kernel) rM_0_115 (by decide) (by simp) rfl rfl) (Nat.le_of_ble_eq_true rfl) hc1 ?_
  refine Rg.step 352 F_Law_350 rfl (fun _ => rfl) ?_
  refine Rg.step 353 F_Law_352 rfl (fun _ => rfl) ?_
  refine Rg.step 354 F_Law_353 rfl (fun _ => rfl) ?_
  refine Rg.step 356 F_Law_354 rfl (fun _ => rfl) ?_
  refine Rg.step 357 F_Law_356 rfl (fun _ => rfl) ?_
  refine Rg.addI 358 F_Law_357 rfl ?_
  refine Rg.sld 359 F_Law_358 rfl h01 (by omega) hN ?_
  refine Rg.call 362 F_Law_359 rfl (one_V rM_0_118 (by decide) (by simp) rfl rfl h168 rfl) (Nat.le_of_ble_eq_true rfl) hc2 ?_
  refine Rg.step 363 F_Law_362 rfl (fun _ => rfl) ?_
  refine Rg.call 366 F_Law_363 rfl (one_V rM_0_101 (by decide) (by simp) rfl rfl h1682 rfl) (Nat.le_of_ble_eq_true rfl) hc3 ?_
  refine Rg.step 368 F_Law_366 rfl (fun _ => rfl) ?_
  refine Rg.iceq 373 371 F_Law_368 rfl rfl (fun _ => ?_) (fun z => absurd rfl z)
  refine Rg.step 1459 F_Law_373 rfl (fun _ => rfl) ?_
  exact Rg.weak hg (by simp [lput1, lput2, Value.category, fi0, fi1, fi2, fi3] <;> first | rfl | exact ⟨rfl, rfl⟩) (by simp [lput1, lput2, Value.category, fi0, fi1, fi2, fi3] <;> first | rfl | exact ⟨rfl, rfl⟩)
theorem lwc_wish (hs : s0 = .inl (.int, aI N sc)) (hN : N ≤ 2560) (hi : 0 ≤ i ∧ i + 4 < N) (hb : ∀ z, -2147483648 ≤ sc z ∧ sc z < 2147483648) (h : INV s0 n mem) : ∃ mem2, INV s0 (n + 1) mem2 ∧ ∀ o mem', Rg false 31 m_Law n0 1459 [(4, .int (iI i)), (0, .ref 0), (1, .ref 2), (2, .ref 168), (3, .ref 218)] [] mem2 o mem' → Rg false 31 m_Law n0 376 [(4, .int (iI i)), (0, .ref 0), (1, .ref 2), (2, .ref 168), (3, .ref 218)] [] mem o mem' := by
  have h0 := h.k0
  rw [hs] at h0
  obtain ⟨k, o1, mem1, mem2, hk, hc1, h01, ⟨fs1, h168⟩, hc2, hc3, hI, hQ⟩ := p_wish (hb (i + 1)) (hb (i + 2)) h
  obtain rfl := hQ
  rw [hs] at h01
  obtain ⟨fs2, h1682⟩ := hI.k168
  refine ⟨mem2, hI, fun o mem' hg => ?_⟩
  refine Rg.step 377 F_Law_376 rfl (fun _ => rfl) ?_
  refine Rg.step 378 F_Law_377 rfl (fun _ => rfl) ?_
  refine Rg.step 380 F_Law_378 rfl (fun _ => rfl) ?_
  refine Rg.step 381 F_Law_380 rfl (fun _ => rfl) ?_
  refine Rg.addI 382 F_Law_381 rfl ?_
  refine Rg.sld 383 F_Law_382 rfl h0 (by omega) hN ?_
  refine Rg.step 384 F_Law_383 rfl (fun _ => rfl) ?_
  refine Rg.step 386 F_Law_384 rfl (fun _ => rfl) ?_
  refine Rg.step 387 F_Law_386 rfl (fun _ => rfl) ?_
  refine Rg.addI 388 F_Law_387 rfl ?_
  refine Rg.sld 389 F_Law_388 rfl h0 (by omega) hN ?_
  refine Rg.call 392 F_Law_389 rfl (one_S (by decide +kernel) rM_0_119 (by decide) (by simp) rfl rfl) (Nat.le_of_ble_eq_true rfl) hc1 ?_
  refine Rg.step 394 F_Law_392 rfl (fun _ => rfl) ?_
  refine Rg.step 395 F_Law_394 rfl (fun _ => rfl) ?_
  refine Rg.step 396 F_Law_395 rfl (fun _ => rfl) ?_
  refine Rg.step 398 F_Law_396 rfl (fun _ => rfl) ?_
  refine Rg.step 399 F_Law_398 rfl (fun _ => rfl) ?_
  refine Rg.addI 400 F_Law_399 rfl ?_
  refine Rg.sld 401 F_Law_400 rfl h01 (by omega) hN ?_
  refine Rg.step 402 F_Law_401 rfl (fun _ => rfl) ?_
  refine Rg.step 404 F_Law_402 rfl (fun _ => rfl) ?_
  refine Rg.step 405 F_Law_404 rfl (fun _ => rfl) ?_
  refine Rg.addI 406 F_Law_405 rfl ?_
  refine Rg.sld 407 F_Law_406 rfl h01 (by omega) hN ?_
  refine Rg.call 410 F_Law_407 rfl (one_V rM_0_121 (by decide) (by simp) rfl rfl h168 rfl) (Nat.le_of_ble_eq_true rfl) hc2 ?_
  refine Rg.step 411 F_Law_410 rfl (fun _ => rfl) ?_
  refine Rg.call 414 F_Law_411 rfl (one_V rM_0_101 (by decide) (by simp) rfl rfl h1682 rfl) (Nat.le_of_ble_eq_true rfl) hc3 ?_
  refine Rg.step 416 F_Law_414 rfl (fun _ => rfl) ?_
  refine Rg.iceq 421 419 F_Law_416 rfl rfl (fun _ => ?_) (fun z => absurd rfl z)
  refine Rg.step 1459 F_Law_421 rfl (fun _ => rfl) ?_
  exact Rg.weak hg (by simp [lput1, lput2, Value.category, fi0, fi1, fi2, fi3] <;> first | rfl | exact ⟨rfl, rfl⟩) (by simp [lput1, lput2, Value.category, fi0, fi1, fi2, fi3] <;> first | rfl | exact ⟨rfl, rfl⟩)
theorem lwc_want (hs : s0 = .inl (.int, aI N sc)) (hN : N ≤ 2560) (hi : 0 ≤ i ∧ i + 4 < N) (hb : ∀ z, -2147483648 ≤ sc z ∧ sc z < 2147483648) (h : INV s0 n mem) : ∃ mem2, INV s0 (n + 1) mem2 ∧ ∀ o mem', Rg false 31 m_Law n0 1459 [(4, .int (iI i)), (0, .ref 0), (1, .ref 2), (2, .ref 168), (3, .ref 218)] [] mem2 o mem' → Rg false 31 m_Law n0 424 [(4, .int (iI i)), (0, .ref 0), (1, .ref 2), (2, .ref 168), (3, .ref 218)] [] mem o mem' := by
  have h0 := h.k0
  rw [hs] at h0
  obtain ⟨k, o1, mem1, mem2, hk, hc1, h01, ⟨fs1, h168⟩, hc2, hc3, hI, hQ⟩ := p_want (hb (i + 1)) (hb (i + 2)) h
  obtain rfl := hQ
  rw [hs] at h01
  obtain ⟨fs2, h1682⟩ := hI.k168
  refine ⟨mem2, hI, fun o mem' hg => ?_⟩
  refine Rg.step 425 F_Law_424 rfl (fun _ => rfl) ?_
  refine Rg.step 426 F_Law_425 rfl (fun _ => rfl) ?_
  refine Rg.step 428 F_Law_426 rfl (fun _ => rfl) ?_
  refine Rg.step 429 F_Law_428 rfl (fun _ => rfl) ?_
  refine Rg.addI 430 F_Law_429 rfl ?_
  refine Rg.sld 431 F_Law_430 rfl h0 (by omega) hN ?_
  refine Rg.step 432 F_Law_431 rfl (fun _ => rfl) ?_
  refine Rg.step 434 F_Law_432 rfl (fun _ => rfl) ?_
  refine Rg.step 435 F_Law_434 rfl (fun _ => rfl) ?_
  refine Rg.addI 436 F_Law_435 rfl ?_
  refine Rg.sld 437 F_Law_436 rfl h0 (by omega) hN ?_
  refine Rg.call 440 F_Law_437 rfl (one_S (by decide +kernel) rM_0_122 (by decide) (by simp) rfl rfl) (Nat.le_of_ble_eq_true rfl) hc1 ?_
  refine Rg.step 442 F_Law_440 rfl (fun _ => rfl) ?_
  refine Rg.step 443 F_Law_442 rfl (fun _ => rfl) ?_
  refine Rg.step 444 F_Law_443 rfl (fun _ => rfl) ?_
  refine Rg.step 446 F_Law_444 rfl (fun _ => rfl) ?_
  refine Rg.step 447 F_Law_446 rfl (fun _ => rfl) ?_
  refine Rg.addI 448 F_Law_447 rfl ?_
  refine Rg.sld 449 F_Law_448 rfl h01 (by omega) hN ?_
  refine Rg.step 450 F_Law_449 rfl (fun _ => rfl) ?_
  refine Rg.step 452 F_Law_450 rfl (fun _ => rfl) ?_
  refine Rg.step 453 F_Law_452 rfl (fun _ => rfl) ?_
  refine Rg.addI 454 F_Law_453 rfl ?_
  refine Rg.sld 455 F_Law_454 rfl h01 (by omega) hN ?_
  refine Rg.call 458 F_Law_455 rfl (one_V rM_0_124 (by decide) (by simp) rfl rfl h168 rfl) (Nat.le_of_ble_eq_true rfl) hc2 ?_
  refine Rg.step 459 F_Law_458 rfl (fun _ => rfl) ?_
  refine Rg.call 462 F_Law_459 rfl (one_V rM_0_101 (by decide) (by simp) rfl rfl h1682 rfl) (Nat.le_of_ble_eq_true rfl) hc3 ?_
  refine Rg.step 464 F_Law_462 rfl (fun _ => rfl) ?_
  refine Rg.iceq 469 467 F_Law_464 rfl rfl (fun _ => ?_) (fun z => absurd rfl z)
  refine Rg.step 1459 F_Law_469 rfl (fun _ => rfl) ?_
  exact Rg.weak hg (by simp [lput1, lput2, Value.category, fi0, fi1, fi2, fi3] <;> first | rfl | exact ⟨rfl, rfl⟩) (by simp [lput1, lput2, Value.category, fi0, fi1, fi2, fi3] <;> first | rfl | exact ⟨rfl, rfl⟩)
theorem lwc_action (hs : s0 = .inl (.int, aI N sc)) (hN : N ≤ 2560) (hi : 0 ≤ i ∧ i + 4 < N) (hb : ∀ z, -2147483648 ≤ sc z ∧ sc z < 2147483648) (h : INV s0 n mem) : ∃ mem2, INV s0 (n + 1) mem2 ∧ ∀ o mem', Rg false 31 m_Law n0 1459 [(4, .int (iI i)), (0, .ref 0), (1, .ref 2), (2, .ref 168), (3, .ref 218)] [] mem2 o mem' → Rg false 31 m_Law n0 472 [(4, .int (iI i)), (0, .ref 0), (1, .ref 2), (2, .ref 168), (3, .ref 218)] [] mem o mem' := by
  have h0 := h.k0
  rw [hs] at h0
  obtain ⟨k, o1, mem1, mem2, hk, hc1, h01, ⟨fs1, h168⟩, hc2, hc3, hI, hQ⟩ := p_action  h
  obtain ⟨b, rfl, hq⟩ := hQ
  rw [hs] at h01
  obtain ⟨fs2, h1682⟩ := hI.k168
  refine ⟨mem2, hI, fun o mem' hg => ?_⟩
  refine Rg.step 473 F_Law_472 rfl (fun _ => rfl) ?_
  refine Rg.step 474 F_Law_473 rfl (fun _ => rfl) ?_
  refine Rg.call 477 F_Law_474 rfl (one_S (by decide +kernel) rM_0_125 (by decide) (by simp) rfl rfl) (Nat.le_of_ble_eq_true rfl) hc1 ?_
  refine Rg.step 479 F_Law_477 rfl (fun _ => rfl) ?_
  refine Rg.step 480 F_Law_479 rfl (fun _ => rfl) ?_
  refine Rg.call 483 F_Law_480 rfl (one_V rM_0_128 (by decide) (by simp) rfl rfl h168 rfl) (Nat.le_of_ble_eq_true rfl) hc2 ?_
  refine Rg.step 485 F_Law_483 rfl (fun _ => rfl) ?_
  refine Rg.step 486 F_Law_485 rfl (fun _ => rfl) ?_
  refine Rg.call 489 F_Law_486 rfl (one_V rM_0_101 (by decide) (by simp) rfl rfl h1682 rfl) (Nat.le_of_ble_eq_true rfl) hc3 ?_
  refine Rg.step 491 F_Law_489 rfl (fun _ => rfl) ?_
  refine Rg.iceq 496 494 F_Law_491 rfl rfl (fun _ => ?_) (fun z => absurd rfl z)
  refine Rg.step 498 F_Law_496 rfl (fun _ => rfl) ?_
  refine Rg.ifneI 513 501 F_Law_498 rfl rfl (by omega) (fun _ => ?_) (fun h0 => ?_)
  · skip
    refine Rg.step 1459 F_Law_513 rfl (fun _ => rfl) ?_
    exact Rg.weak hg (by simp [lput1, lput2, Value.category, fi0, fi1, fi2, fi3] <;> first | rfl | exact ⟨rfl, rfl⟩) (by simp [lput1, lput2, Value.category, fi0, fi1, fi2, fi3] <;> first | rfl | exact ⟨rfl, rfl⟩)
  · skip
    refine Rg.step 502 F_Law_501 rfl (fun _ => rfl) ?_
    refine Rg.step 503 F_Law_502 rfl (fun _ => rfl) ?_
    refine Rg.lald 504 F_Law_503 rfl (hq h0) (show ix (iI 0) = some 0 by decide) rfl ?_
    refine Rg.step 506 F_Law_504 rfl (fun _ => rfl) ?_
    refine Rg.step 507 F_Law_506 rfl (fun _ => rfl) ?_
    refine Rg.step 508 F_Law_507 rfl (fun _ => rfl) ?_
    refine Rg.ifeq 513 511 F_Law_508 rfl rfl (fun _ => ?_) (fun z => absurd ((lg_cmp_eq _ _).mpr rfl) z)
    refine Rg.step 1459 F_Law_513 rfl (fun _ => rfl) ?_
    exact Rg.weak hg (by simp [lput1, lput2, Value.category, fi0, fi1, fi2, fi3] <;> first | rfl | exact ⟨rfl, rfl⟩) (by simp [lput1, lput2, Value.category, fi0, fi1, fi2, fi3] <;> first | rfl | exact ⟨rfl, rfl⟩)
theorem lwc_need (hs : s0 = .inl (.int, aI N sc)) (hN : N ≤ 2560) (hi : 0 ≤ i ∧ i + 4 < N) (hb : ∀ z, -2147483648 ≤ sc z ∧ sc z < 2147483648) (h : INV s0 n mem) : ∃ mem2, INV s0 (n + 1) mem2 ∧ ∀ o mem', Rg false 31 m_Law n0 1459 [(4, .int (iI i)), (0, .ref 0), (1, .ref 2), (2, .ref 168), (3, .ref 218)] [] mem2 o mem' → Rg false 31 m_Law n0 516 [(4, .int (iI i)), (0, .ref 0), (1, .ref 2), (2, .ref 168), (3, .ref 218)] [] mem o mem' := by
  have h0 := h.k0
  rw [hs] at h0
  obtain ⟨k, o1, mem1, mem2, hk, hc1, h01, ⟨fs1, h168⟩, hc2, hc3, hI, hQ⟩ := p_need (v := (¬ sc (i + 4) = 0)) (hb (i + 1)) (hb (i + 2)) (hb (i + 3)) h
  obtain rfl := hQ
  rw [hs] at h01
  obtain ⟨fs2, h1682⟩ := hI.k168
  refine ⟨mem2, hI, fun o mem' hg => ?_⟩
  by_cases hz : sc (i + 4) = 0
  · skip
    refine Rg.step 517 F_Law_516 rfl (fun _ => rfl) ?_
    refine Rg.step 518 F_Law_517 rfl (fun _ => rfl) ?_
    refine Rg.step 520 F_Law_518 rfl (fun _ => rfl) ?_
    refine Rg.step 521 F_Law_520 rfl (fun _ => rfl) ?_
    refine Rg.addI 522 F_Law_521 rfl ?_
    refine Rg.sld 523 F_Law_522 rfl h0 (by omega) hN ?_
    refine Rg.step 524 F_Law_523 rfl (fun _ => rfl) ?_
    refine Rg.step 526 F_Law_524 rfl (fun _ => rfl) ?_
    refine Rg.step 527 F_Law_526 rfl (fun _ => rfl) ?_
    refine Rg.addI 528 F_Law_527 rfl ?_
    refine Rg.sld 529 F_Law_528 rfl h0 (by omega) hN ?_
    refine Rg.step 530 F_Law_529 rfl (fun _ => rfl) ?_
    refine Rg.step 532 F_Law_530 rfl (fun _ => rfl) ?_
    refine Rg.step 533 F_Law_532 rfl (fun _ => rfl) ?_
    refine Rg.addI 534 F_Law_533 rfl ?_
    refine Rg.sld 535 F_Law_534 rfl h0 (by omega) hN ?_
    refine Rg.step 536 F_Law_535 rfl (fun _ => rfl) ?_
    refine Rg.step 538 F_Law_536 rfl (fun _ => rfl) ?_
    refine Rg.step 539 F_Law_538 rfl (fun _ => rfl) ?_
    refine Rg.addI 540 F_Law_539 rfl ?_
    refine Rg.sld 541 F_Law_540 rfl h0 (by omega) hN ?_
    refine Rg.ifeqI 548 544 F_Law_541 rfl rfl (hb _) (fun _ => ?_) (fun z => absurd hz z)
    refine Rg.cP0 (B := (¬ sc (i + 4) = 0)) 549 F_Law_548 rfl (fun z => z hz) ?_
    refine Rg.call 552 F_Law_549 rfl (one_S (by decide +kernel) rM_0_129 (by decide) (by simp) rfl rfl) (Nat.le_of_ble_eq_true rfl) hc1 ?_
    refine Rg.step 554 F_Law_552 rfl (fun _ => rfl) ?_
    refine Rg.step 555 F_Law_554 rfl (fun _ => rfl) ?_
    refine Rg.step 556 F_Law_555 rfl (fun _ => rfl) ?_
    refine Rg.step 558 F_Law_556 rfl (fun _ => rfl) ?_
    refine Rg.step 559 F_Law_558 rfl (fun _ => rfl) ?_
    refine Rg.addI 560 F_Law_559 rfl ?_
    refine Rg.sld 561 F_Law_560 rfl h01 (by omega) hN ?_
    refine Rg.step 562 F_Law_561 rfl (fun _ => rfl) ?_
    refine Rg.step 564 F_Law_562 rfl (fun _ => rfl) ?_
    refine Rg.step 565 F_Law_564 rfl (fun _ => rfl) ?_
    refine Rg.addI 566 F_Law_565 rfl ?_
    refine Rg.sld 567 F_Law_566 rfl h01 (by omega) hN ?_
    refine Rg.step 568 F_Law_567 rfl (fun _ => rfl) ?_
    refine Rg.step 570 F_Law_568 rfl (fun _ => rfl) ?_
    refine Rg.step 571 F_Law_570 rfl (fun _ => rfl) ?_
    refine Rg.addI 572 F_Law_571 rfl ?_
    refine Rg.sld 573 F_Law_572 rfl h01 (by omega) hN ?_
    refine Rg.step 574 F_Law_573 rfl (fun _ => rfl) ?_
    refine Rg.step 576 F_Law_574 rfl (fun _ => rfl) ?_
    refine Rg.step 577 F_Law_576 rfl (fun _ => rfl) ?_
    refine Rg.addI 578 F_Law_577 rfl ?_
    refine Rg.sld 579 F_Law_578 rfl h01 (by omega) hN ?_
    refine Rg.ifeqI 586 582 F_Law_579 rfl rfl (hb _) (fun _ => ?_) (fun z => absurd hz z)
    refine Rg.cP0 (B := (¬ sc (i + 4) = 0)) 587 F_Law_586 rfl (fun z => z hz) ?_
    refine Rg.call 590 F_Law_587 rfl (one_V rM_0_132 (by decide) (by simp) rfl rfl h168 rfl) (Nat.le_of_ble_eq_true rfl) hc2 ?_
    refine Rg.step 591 F_Law_590 rfl (fun _ => rfl) ?_
    refine Rg.call 594 F_Law_591 rfl (one_V rM_0_101 (by decide) (by simp) rfl rfl h1682 rfl) (Nat.le_of_ble_eq_true rfl) hc3 ?_
    refine Rg.step 596 F_Law_594 rfl (fun _ => rfl) ?_
    refine Rg.iceq 601 599 F_Law_596 rfl rfl (fun _ => ?_) (fun z => absurd rfl z)
    refine Rg.step 1459 F_Law_601 rfl (fun _ => rfl) ?_
    exact Rg.weak hg (by simp [lput1, lput2, Value.category, fi0, fi1, fi2, fi3] <;> first | rfl | exact ⟨rfl, rfl⟩) (by simp [lput1, lput2, Value.category, fi0, fi1, fi2, fi3] <;> first | rfl | exact ⟨rfl, rfl⟩)
  · skip
    refine Rg.step 517 F_Law_516 rfl (fun _ => rfl) ?_
    refine Rg.step 518 F_Law_517 rfl (fun _ => rfl) ?_
    refine Rg.step 520 F_Law_518 rfl (fun _ => rfl) ?_
    refine Rg.step 521 F_Law_520 rfl (fun _ => rfl) ?_
    refine Rg.addI 522 F_Law_521 rfl ?_
    refine Rg.sld 523 F_Law_522 rfl h0 (by omega) hN ?_
    refine Rg.step 524 F_Law_523 rfl (fun _ => rfl) ?_
    refine Rg.step 526 F_Law_524 rfl (fun _ => rfl) ?_
    refine Rg.step 527 F_Law_526 rfl (fun _ => rfl) ?_
    refine Rg.addI 528 F_Law_527 rfl ?_
    refine Rg.sld 529 F_Law_528 rfl h0 (by omega) hN ?_
    refine Rg.step 530 F_Law_529 rfl (fun _ => rfl) ?_
    refine Rg.step 532 F_Law_530 rfl (fun _ => rfl) ?_
    refine Rg.step 533 F_Law_532 rfl (fun _ => rfl) ?_
    refine Rg.addI 534 F_Law_533 rfl ?_
    refine Rg.sld 535 F_Law_534 rfl h0 (by omega) hN ?_
    refine Rg.step 536 F_Law_535 rfl (fun _ => rfl) ?_
    refine Rg.step 538 F_Law_536 rfl (fun _ => rfl) ?_
    refine Rg.step 539 F_Law_538 rfl (fun _ => rfl) ?_
    refine Rg.addI 540 F_Law_539 rfl ?_
    refine Rg.sld 541 F_Law_540 rfl h0 (by omega) hN ?_
    refine Rg.ifeqI 548 544 F_Law_541 rfl rfl (hb _) (fun z => absurd z hz) (fun _ => ?_)
    refine Rg.cP1 (B := (¬ sc (i + 4) = 0)) 545 F_Law_544 rfl hz ?_
    refine Rg.step 549 F_Law_545 rfl (fun _ => rfl) ?_
    refine Rg.call 552 F_Law_549 rfl (one_S (by decide +kernel) rM_0_129 (by decide) (by simp) rfl rfl) (Nat.le_of_ble_eq_true rfl) hc1 ?_
    refine Rg.step 554 F_Law_552 rfl (fun _ => rfl) ?_
    refine Rg.step 555 F_Law_554 rfl (fun _ => rfl) ?_
    refine Rg.step 556 F_Law_555 rfl (fun _ => rfl) ?_
    refine Rg.step 558 F_Law_556 rfl (fun _ => rfl) ?_
    refine Rg.step 559 F_Law_558 rfl (fun _ => rfl) ?_
    refine Rg.addI 560 F_Law_559 rfl ?_
    refine Rg.sld 561 F_Law_560 rfl h01 (by omega) hN ?_
    refine Rg.step 562 F_Law_561 rfl (fun _ => rfl) ?_
    refine Rg.step 564 F_Law_562 rfl (fun _ => rfl) ?_
    refine Rg.step 565 F_Law_564 rfl (fun _ => rfl) ?_
    refine Rg.addI 566 F_Law_565 rfl ?_
    refine Rg.sld 567 F_Law_566 rfl h01 (by omega) hN ?_
    refine Rg.step 568 F_Law_567 rfl (fun _ => rfl) ?_
    refine Rg.step 570 F_Law_568 rfl (fun _ => rfl) ?_
    refine Rg.step 571 F_Law_570 rfl (fun _ => rfl) ?_
    refine Rg.addI 572 F_Law_571 rfl ?_
    refine Rg.sld 573 F_Law_572 rfl h01 (by omega) hN ?_
    refine Rg.step 574 F_Law_573 rfl (fun _ => rfl) ?_
    refine Rg.step 576 F_Law_574 rfl (fun _ => rfl) ?_
    refine Rg.step 577 F_Law_576 rfl (fun _ => rfl) ?_
    refine Rg.addI 578 F_Law_577 rfl ?_
    refine Rg.sld 579 F_Law_578 rfl h01 (by omega) hN ?_
    refine Rg.ifeqI 586 582 F_Law_579 rfl rfl (hb _) (fun z => absurd z hz) (fun _ => ?_)
    refine Rg.cP1 (B := (¬ sc (i + 4) = 0)) 583 F_Law_582 rfl hz ?_
    refine Rg.step 587 F_Law_583 rfl (fun _ => rfl) ?_
    refine Rg.call 590 F_Law_587 rfl (one_V rM_0_132 (by decide) (by simp) rfl rfl h168 rfl) (Nat.le_of_ble_eq_true rfl) hc2 ?_
    refine Rg.step 591 F_Law_590 rfl (fun _ => rfl) ?_
    refine Rg.call 594 F_Law_591 rfl (one_V rM_0_101 (by decide) (by simp) rfl rfl h1682 rfl) (Nat.le_of_ble_eq_true rfl) hc3 ?_
    refine Rg.step 596 F_Law_594 rfl (fun _ => rfl) ?_
    refine Rg.iceq 601 599 F_Law_596 rfl rfl (fun _ => ?_) (fun z => absurd rfl z)
    refine Rg.step 1459 F_Law_601 rfl (fun _ => rfl) ?_
    exact Rg.weak hg (by simp [lput1, lput2, Value.category, fi0, fi1, fi2, fi3] <;> first | rfl | exact ⟨rfl, rfl⟩) (by simp [lput1, lput2, Value.category, fi0, fi1, fi2, fi3] <;> first | rfl | exact ⟨rfl, rfl⟩)
theorem lwc_compare (hs : s0 = .inl (.int, aI N sc)) (hN : N ≤ 2560) (hi : 0 ≤ i ∧ i + 4 < N) (hb : ∀ z, -2147483648 ≤ sc z ∧ sc z < 2147483648) (h : INV s0 n mem) : ∃ mem2, INV s0 (n + 1) mem2 ∧ ∀ o mem', Rg false 31 m_Law n0 1459 [(4, .int (iI i)), (0, .ref 0), (1, .ref 2), (2, .ref 168), (3, .ref 218)] [] mem2 o mem' → Rg false 31 m_Law n0 604 [(4, .int (iI i)), (0, .ref 0), (1, .ref 2), (2, .ref 168), (3, .ref 218)] [] mem o mem' := by
  have h0 := h.k0
  rw [hs] at h0
  obtain ⟨k, o1, mem1, mem2, hk, hc1, h01, ⟨fs1, h168⟩, hc2, hc3, hI, hQ⟩ := p_compare (hb (i + 1)) (hb (i + 2)) (hb (i + 3)) (hb (i + 4)) h
  obtain rfl := hQ
  rw [hs] at h01
  obtain ⟨fs2, h1682⟩ := hI.k168
  refine ⟨mem2, hI, fun o mem' hg => ?_⟩
  refine Rg.step 605 F_Law_604 rfl (fun _ => rfl) ?_
  refine Rg.step 606 F_Law_605 rfl (fun _ => rfl) ?_
  refine Rg.step 608 F_Law_606 rfl (fun _ => rfl) ?_
  refine Rg.step 609 F_Law_608 rfl (fun _ => rfl) ?_
  refine Rg.addI 610 F_Law_609 rfl ?_
  refine Rg.sld 611 F_Law_610 rfl h0 (by omega) hN ?_
  refine Rg.step 612 F_Law_611 rfl (fun _ => rfl) ?_
  refine Rg.step 614 F_Law_612 rfl (fun _ => rfl) ?_
  refine Rg.step 615 F_Law_614 rfl (fun _ => rfl) ?_
  refine Rg.addI 616 F_Law_615 rfl ?_
  refine Rg.sld 617 F_Law_616 rfl h0 (by omega) hN ?_
  refine Rg.step 618 F_Law_617 rfl (fun _ => rfl) ?_
  refine Rg.step 620 F_Law_618 rfl (fun _ => rfl) ?_
  refine Rg.step 621 F_Law_620 rfl (fun _ => rfl) ?_
  refine Rg.addI 622 F_Law_621 rfl ?_
  refine Rg.sld 623 F_Law_622 rfl h0 (by omega) hN ?_
  refine Rg.step 624 F_Law_623 rfl (fun _ => rfl) ?_
  refine Rg.step 626 F_Law_624 rfl (fun _ => rfl) ?_
  refine Rg.step 627 F_Law_626 rfl (fun _ => rfl) ?_
  refine Rg.addI 628 F_Law_627 rfl ?_
  refine Rg.sld 629 F_Law_628 rfl h0 (by omega) hN ?_
  refine Rg.call 632 F_Law_629 rfl (one_S (by decide +kernel) rM_0_133 (by decide) (by simp) rfl rfl) (Nat.le_of_ble_eq_true rfl) hc1 ?_
  refine Rg.step 634 F_Law_632 rfl (fun _ => rfl) ?_
  refine Rg.step 635 F_Law_634 rfl (fun _ => rfl) ?_
  refine Rg.step 636 F_Law_635 rfl (fun _ => rfl) ?_
  refine Rg.step 638 F_Law_636 rfl (fun _ => rfl) ?_
  refine Rg.step 639 F_Law_638 rfl (fun _ => rfl) ?_
  refine Rg.addI 640 F_Law_639 rfl ?_
  refine Rg.sld 641 F_Law_640 rfl h01 (by omega) hN ?_
  refine Rg.step 642 F_Law_641 rfl (fun _ => rfl) ?_
  refine Rg.step 644 F_Law_642 rfl (fun _ => rfl) ?_
  refine Rg.step 645 F_Law_644 rfl (fun _ => rfl) ?_
  refine Rg.addI 646 F_Law_645 rfl ?_
  refine Rg.sld 647 F_Law_646 rfl h01 (by omega) hN ?_
  refine Rg.step 648 F_Law_647 rfl (fun _ => rfl) ?_
  refine Rg.step 650 F_Law_648 rfl (fun _ => rfl) ?_
  refine Rg.step 651 F_Law_650 rfl (fun _ => rfl) ?_
  refine Rg.addI 652 F_Law_651 rfl ?_
  refine Rg.sld 653 F_Law_652 rfl h01 (by omega) hN ?_
  refine Rg.step 654 F_Law_653 rfl (fun _ => rfl) ?_
  refine Rg.step 656 F_Law_654 rfl (fun _ => rfl) ?_
  refine Rg.step 657 F_Law_656 rfl (fun _ => rfl) ?_
  refine Rg.addI 658 F_Law_657 rfl ?_
  refine Rg.sld 659 F_Law_658 rfl h01 (by omega) hN ?_
  refine Rg.call 662 F_Law_659 rfl (one_V rM_0_136 (by decide) (by simp) rfl rfl h168 rfl) (Nat.le_of_ble_eq_true rfl) hc2 ?_
  refine Rg.step 663 F_Law_662 rfl (fun _ => rfl) ?_
  refine Rg.call 666 F_Law_663 rfl (one_V rM_0_101 (by decide) (by simp) rfl rfl h1682 rfl) (Nat.le_of_ble_eq_true rfl) hc3 ?_
  refine Rg.step 668 F_Law_666 rfl (fun _ => rfl) ?_
  refine Rg.iceq 673 671 F_Law_668 rfl rfl (fun _ => ?_) (fun z => absurd rfl z)
  refine Rg.step 1459 F_Law_673 rfl (fun _ => rfl) ?_
  exact Rg.weak hg (by simp [lput1, lput2, Value.category, fi0, fi1, fi2, fi3] <;> first | rfl | exact ⟨rfl, rfl⟩) (by simp [lput1, lput2, Value.category, fi0, fi1, fi2, fi3] <;> first | rfl | exact ⟨rfl, rfl⟩)
theorem lwc_make (hs : s0 = .inl (.int, aI N sc)) (hN : N ≤ 2560) (hi : 0 ≤ i ∧ i + 4 < N) (hb : ∀ z, -2147483648 ≤ sc z ∧ sc z < 2147483648) (h : INV s0 n mem) : ∃ mem2, INV s0 (n + 1) mem2 ∧ ∀ o mem', Rg false 31 m_Law n0 1459 [(4, .int (iI i)), (0, .ref 0), (1, .ref 2), (2, .ref 168), (3, .ref 218)] [] mem2 o mem' → Rg false 31 m_Law n0 676 [(4, .int (iI i)), (0, .ref 0), (1, .ref 2), (2, .ref 168), (3, .ref 218)] [] mem o mem' := by
  have h0 := h.k0
  rw [hs] at h0
  obtain ⟨k, o1, mem1, mem2, hk, hc1, h01, ⟨fs1, h168⟩, hc2, hc3, hI, hQ⟩ := p_make (v := (¬ sc (i + 4) = 0)) (hb (i + 1)) (hb (i + 2)) (hb (i + 3)) h
  obtain rfl := hQ
  rw [hs] at h01
  obtain ⟨fs2, h1682⟩ := hI.k168
  refine ⟨mem2, hI, fun o mem' hg => ?_⟩
  by_cases hz : sc (i + 4) = 0
  · skip
    refine Rg.step 677 F_Law_676 rfl (fun _ => rfl) ?_
    refine Rg.step 678 F_Law_677 rfl (fun _ => rfl) ?_
    refine Rg.step 680 F_Law_678 rfl (fun _ => rfl) ?_
    refine Rg.step 681 F_Law_680 rfl (fun _ => rfl) ?_
    refine Rg.addI 682 F_Law_681 rfl ?_
    refine Rg.sld 683 F_Law_682 rfl h0 (by omega) hN ?_
    refine Rg.step 684 F_Law_683 rfl (fun _ => rfl) ?_
    refine Rg.step 686 F_Law_684 rfl (fun _ => rfl) ?_
    refine Rg.step 687 F_Law_686 rfl (fun _ => rfl) ?_
    refine Rg.addI 688 F_Law_687 rfl ?_
    refine Rg.sld 689 F_Law_688 rfl h0 (by omega) hN ?_
    refine Rg.step 690 F_Law_689 rfl (fun _ => rfl) ?_
    refine Rg.step 692 F_Law_690 rfl (fun _ => rfl) ?_
    refine Rg.step 693 F_Law_692 rfl (fun _ => rfl) ?_
    refine Rg.addI 694 F_Law_693 rfl ?_
    refine Rg.sld 695 F_Law_694 rfl h0 (by omega) hN ?_
    refine Rg.step 696 F_Law_695 rfl (fun _ => rfl) ?_
    refine Rg.step 698 F_Law_696 rfl (fun _ => rfl) ?_
    refine Rg.step 699 F_Law_698 rfl (fun _ => rfl) ?_
    refine Rg.addI 700 F_Law_699 rfl ?_
    refine Rg.sld 701 F_Law_700 rfl h0 (by omega) hN ?_
    refine Rg.ifeqI 708 704 F_Law_701 rfl rfl (hb _) (fun _ => ?_) (fun z => absurd hz z)
    refine Rg.cP0 (B := (¬ sc (i + 4) = 0)) 709 F_Law_708 rfl (fun z => z hz) ?_
    refine Rg.call 712 F_Law_709 rfl (one_S (by decide +kernel) rM_0_137 (by decide) (by simp) rfl rfl) (Nat.le_of_ble_eq_true rfl) hc1 ?_
    refine Rg.step 714 F_Law_712 rfl (fun _ => rfl) ?_
    refine Rg.step 715 F_Law_714 rfl (fun _ => rfl) ?_
    refine Rg.step 716 F_Law_715 rfl (fun _ => rfl) ?_
    refine Rg.step 718 F_Law_716 rfl (fun _ => rfl) ?_
    refine Rg.step 719 F_Law_718 rfl (fun _ => rfl) ?_
    refine Rg.addI 720 F_Law_719 rfl ?_
    refine Rg.sld 721 F_Law_720 rfl h01 (by omega) hN ?_
    refine Rg.step 722 F_Law_721 rfl (fun _ => rfl) ?_
    refine Rg.step 724 F_Law_722 rfl (fun _ => rfl) ?_
    refine Rg.step 725 F_Law_724 rfl (fun _ => rfl) ?_
    refine Rg.addI 726 F_Law_725 rfl ?_
    refine Rg.sld 727 F_Law_726 rfl h01 (by omega) hN ?_
    refine Rg.step 728 F_Law_727 rfl (fun _ => rfl) ?_
    refine Rg.step 730 F_Law_728 rfl (fun _ => rfl) ?_
    refine Rg.step 731 F_Law_730 rfl (fun _ => rfl) ?_
    refine Rg.addI 732 F_Law_731 rfl ?_
    refine Rg.sld 733 F_Law_732 rfl h01 (by omega) hN ?_
    refine Rg.step 734 F_Law_733 rfl (fun _ => rfl) ?_
    refine Rg.step 736 F_Law_734 rfl (fun _ => rfl) ?_
    refine Rg.step 737 F_Law_736 rfl (fun _ => rfl) ?_
    refine Rg.addI 738 F_Law_737 rfl ?_
    refine Rg.sld 739 F_Law_738 rfl h01 (by omega) hN ?_
    refine Rg.ifeqI 746 742 F_Law_739 rfl rfl (hb _) (fun _ => ?_) (fun z => absurd hz z)
    refine Rg.cP0 (B := (¬ sc (i + 4) = 0)) 747 F_Law_746 rfl (fun z => z hz) ?_
    refine Rg.call 750 F_Law_747 rfl (one_V rM_0_139 (by decide) (by simp) rfl rfl h168 rfl) (Nat.le_of_ble_eq_true rfl) hc2 ?_
    refine Rg.step 751 F_Law_750 rfl (fun _ => rfl) ?_
    refine Rg.call 754 F_Law_751 rfl (one_V rM_0_101 (by decide) (by simp) rfl rfl h1682 rfl) (Nat.le_of_ble_eq_true rfl) hc3 ?_
    refine Rg.step 756 F_Law_754 rfl (fun _ => rfl) ?_
    refine Rg.iceq 761 759 F_Law_756 rfl rfl (fun _ => ?_) (fun z => absurd rfl z)
    refine Rg.step 1459 F_Law_761 rfl (fun _ => rfl) ?_
    exact Rg.weak hg (by simp [lput1, lput2, Value.category, fi0, fi1, fi2, fi3] <;> first | rfl | exact ⟨rfl, rfl⟩) (by simp [lput1, lput2, Value.category, fi0, fi1, fi2, fi3] <;> first | rfl | exact ⟨rfl, rfl⟩)
  · skip
    refine Rg.step 677 F_Law_676 rfl (fun _ => rfl) ?_
    refine Rg.step 678 F_Law_677 rfl (fun _ => rfl) ?_
    refine Rg.step 680 F_Law_678 rfl (fun _ => rfl) ?_
    refine Rg.step 681 F_Law_680 rfl (fun _ => rfl) ?_
    refine Rg.addI 682 F_Law_681 rfl ?_
    refine Rg.sld 683 F_Law_682 rfl h0 (by omega) hN ?_
    refine Rg.step 684 F_Law_683 rfl (fun _ => rfl) ?_
    refine Rg.step 686 F_Law_684 rfl (fun _ => rfl) ?_
    refine Rg.step 687 F_Law_686 rfl (fun _ => rfl) ?_
    refine Rg.addI 688 F_Law_687 rfl ?_
    refine Rg.sld 689 F_Law_688 rfl h0 (by omega) hN ?_
    refine Rg.step 690 F_Law_689 rfl (fun _ => rfl) ?_
    refine Rg.step 692 F_Law_690 rfl (fun _ => rfl) ?_
    refine Rg.step 693 F_Law_692 rfl (fun _ => rfl) ?_
    refine Rg.addI 694 F_Law_693 rfl ?_
    refine Rg.sld 695 F_Law_694 rfl h0 (by omega) hN ?_
    refine Rg.step 696 F_Law_695 rfl (fun _ => rfl) ?_
    refine Rg.step 698 F_Law_696 rfl (fun _ => rfl) ?_
    refine Rg.step 699 F_Law_698 rfl (fun _ => rfl) ?_
    refine Rg.addI 700 F_Law_699 rfl ?_
    refine Rg.sld 701 F_Law_700 rfl h0 (by omega) hN ?_
    refine Rg.ifeqI 708 704 F_Law_701 rfl rfl (hb _) (fun z => absurd z hz) (fun _ => ?_)
    refine Rg.cP1 (B := (¬ sc (i + 4) = 0)) 705 F_Law_704 rfl hz ?_
    refine Rg.step 709 F_Law_705 rfl (fun _ => rfl) ?_
    refine Rg.call 712 F_Law_709 rfl (one_S (by decide +kernel) rM_0_137 (by decide) (by simp) rfl rfl) (Nat.le_of_ble_eq_true rfl) hc1 ?_
    refine Rg.step 714 F_Law_712 rfl (fun _ => rfl) ?_
    refine Rg.step 715 F_Law_714 rfl (fun _ => rfl) ?_
    refine Rg.step 716 F_Law_715 rfl (fun _ => rfl) ?_
    refine Rg.step 718 F_Law_716 rfl (fun _ => rfl) ?_
    refine Rg.step 719 F_Law_718 rfl (fun _ => rfl) ?_
    refine Rg.addI 720 F_Law_719 rfl ?_
    refine Rg.sld 721 F_Law_720 rfl h01 (by omega) hN ?_
    refine Rg.step 722 F_Law_721 rfl (fun _ => rfl) ?_
    refine Rg.step 724 F_Law_722 rfl (fun _ => rfl) ?_
    refine Rg.step 725 F_Law_724 rfl (fun _ => rfl) ?_
    refine Rg.addI 726 F_Law_725 rfl ?_
    refine Rg.sld 727 F_Law_726 rfl h01 (by omega) hN ?_
    refine Rg.step 728 F_Law_727 rfl (fun _ => rfl) ?_
    refine Rg.step 730 F_Law_728 rfl (fun _ => rfl) ?_
    refine Rg.step 731 F_Law_730 rfl (fun _ => rfl) ?_
    refine Rg.addI 732 F_Law_731 rfl ?_
    refine Rg.sld 733 F_Law_732 rfl h01 (by omega) hN ?_
    refine Rg.step 734 F_Law_733 rfl (fun _ => rfl) ?_
    refine Rg.step 736 F_Law_734 rfl (fun _ => rfl) ?_
    refine Rg.step 737 F_Law_736 rfl (fun _ => rfl) ?_
    refine Rg.addI 738 F_Law_737 rfl ?_
    refine Rg.sld 739 F_Law_738 rfl h01 (by omega) hN ?_
    refine Rg.ifeqI 746 742 F_Law_739 rfl rfl (hb _) (fun z => absurd z hz) (fun _ => ?_)
    refine Rg.cP1 (B := (¬ sc (i + 4) = 0)) 743 F_Law_742 rfl hz ?_
    refine Rg.step 747 F_Law_743 rfl (fun _ => rfl) ?_
    refine Rg.call 750 F_Law_747 rfl (one_V rM_0_139 (by decide) (by simp) rfl rfl h168 rfl) (Nat.le_of_ble_eq_true rfl) hc2 ?_
    refine Rg.step 751 F_Law_750 rfl (fun _ => rfl) ?_
    refine Rg.call 754 F_Law_751 rfl (one_V rM_0_101 (by decide) (by simp) rfl rfl h1682 rfl) (Nat.le_of_ble_eq_true rfl) hc3 ?_
    refine Rg.step 756 F_Law_754 rfl (fun _ => rfl) ?_
    refine Rg.iceq 761 759 F_Law_756 rfl rfl (fun _ => ?_) (fun z => absurd rfl z)
    refine Rg.step 1459 F_Law_761 rfl (fun _ => rfl) ?_
    exact Rg.weak hg (by simp [lput1, lput2, Value.category, fi0, fi1, fi2, fi3] <;> first | rfl | exact ⟨rfl, rfl⟩) (by simp [lput1, lput2, Value.category, fi0, fi1, fi2, fi3] <;> first | rfl | exact ⟨rfl, rfl⟩)
theorem lwc_change (hs : s0 = .inl (.int, aI N sc)) (hN : N ≤ 2560) (hi : 0 ≤ i ∧ i + 4 < N) (hb : ∀ z, -2147483648 ≤ sc z ∧ sc z < 2147483648) (h : INV s0 n mem) : ∃ mem2, INV s0 (n + 1) mem2 ∧ ∀ o mem', Rg false 31 m_Law n0 1459 [(4, .int (iI i)), (0, .ref 0), (1, .ref 2), (2, .ref 168), (3, .ref 218)] [] mem2 o mem' → Rg false 31 m_Law n0 764 [(4, .int (iI i)), (0, .ref 0), (1, .ref 2), (2, .ref 168), (3, .ref 218)] [] mem o mem' := by
  have h0 := h.k0
  rw [hs] at h0
  obtain ⟨k, o1, mem1, mem2, hk, hc1, h01, ⟨fs1, h168⟩, hc2, hc3, hI, hQ⟩ := p_change (hb (i + 1)) (hb (i + 2)) (hb (i + 3)) (hb (i + 4)) h
  obtain rfl := hQ
  rw [hs] at h01
  obtain ⟨fs2, h1682⟩ := hI.k168
  refine ⟨mem2, hI, fun o mem' hg => ?_⟩
  refine Rg.step 765 F_Law_764 rfl (fun _ => rfl) ?_
  refine Rg.step 766 F_Law_765 rfl (fun _ => rfl) ?_
  refine Rg.step 768 F_Law_766 rfl (fun _ => rfl) ?_
  refine Rg.step 769 F_Law_768 rfl (fun _ => rfl) ?_
  refine Rg.addI 770 F_Law_769 rfl ?_
  refine Rg.sld 771 F_Law_770 rfl h0 (by omega) hN ?_
  refine Rg.step 772 F_Law_771 rfl (fun _ => rfl) ?_
  refine Rg.step 774 F_Law_772 rfl (fun _ => rfl) ?_
  refine Rg.step 775 F_Law_774 rfl (fun _ => rfl) ?_
  refine Rg.addI 776 F_Law_775 rfl ?_
  refine Rg.sld 777 F_Law_776 rfl h0 (by omega) hN ?_
  refine Rg.step 778 F_Law_777 rfl (fun _ => rfl) ?_
  refine Rg.step 780 F_Law_778 rfl (fun _ => rfl) ?_
  refine Rg.step 781 F_Law_780 rfl (fun _ => rfl) ?_
  refine Rg.addI 782 F_Law_781 rfl ?_
  refine Rg.sld 783 F_Law_782 rfl h0 (by omega) hN ?_
  refine Rg.step 784 F_Law_783 rfl (fun _ => rfl) ?_
  refine Rg.step 786 F_Law_784 rfl (fun _ => rfl) ?_
  refine Rg.step 787 F_Law_786 rfl (fun _ => rfl) ?_
  refine Rg.addI 788 F_Law_787 rfl ?_
  refine Rg.sld 789 F_Law_788 rfl h0 (by omega) hN ?_
  refine Rg.call 792 F_Law_789 rfl (one_S (by decide +kernel) rM_0_140 (by decide) (by simp) rfl rfl) (Nat.le_of_ble_eq_true rfl) hc1 ?_
  refine Rg.step 794 F_Law_792 rfl (fun _ => rfl) ?_
  refine Rg.step 795 F_Law_794 rfl (fun _ => rfl) ?_
  refine Rg.step 796 F_Law_795 rfl (fun _ => rfl) ?_
  refine Rg.step 798 F_Law_796 rfl (fun _ => rfl) ?_
  refine Rg.step 799 F_Law_798 rfl (fun _ => rfl) ?_
  refine Rg.addI 800 F_Law_799 rfl ?_
  refine Rg.sld 801 F_Law_800 rfl h01 (by omega) hN ?_
  refine Rg.step 802 F_Law_801 rfl (fun _ => rfl) ?_
  refine Rg.step 804 F_Law_802 rfl (fun _ => rfl) ?_
  refine Rg.step 805 F_Law_804 rfl (fun _ => rfl) ?_
  refine Rg.addI 806 F_Law_805 rfl ?_
  refine Rg.sld 807 F_Law_806 rfl h01 (by omega) hN ?_
  refine Rg.step 808 F_Law_807 rfl (fun _ => rfl) ?_
  refine Rg.step 810 F_Law_808 rfl (fun _ => rfl) ?_
  refine Rg.step 811 F_Law_810 rfl (fun _ => rfl) ?_
  refine Rg.addI 812 F_Law_811 rfl ?_
  refine Rg.sld 813 F_Law_812 rfl h01 (by omega) hN ?_
  refine Rg.step 814 F_Law_813 rfl (fun _ => rfl) ?_
  refine Rg.step 816 F_Law_814 rfl (fun _ => rfl) ?_
  refine Rg.step 817 F_Law_816 rfl (fun _ => rfl) ?_
  refine Rg.addI 818 F_Law_817 rfl ?_
  refine Rg.sld 819 F_Law_818 rfl h01 (by omega) hN ?_
  refine Rg.call 822 F_Law_819 rfl (one_V rM_0_142 (by decide) (by simp) rfl rfl h168 rfl) (Nat.le_of_ble_eq_true rfl) hc2 ?_
  refine Rg.step 823 F_Law_822 rfl (fun _ => rfl) ?_
  refine Rg.call 826 F_Law_823 rfl (one_V rM_0_101 (by decide) (by simp) rfl rfl h1682 rfl) (Nat.le_of_ble_eq_true rfl) hc3 ?_
  refine Rg.step 828 F_Law_826 rfl (fun _ => rfl) ?_
  refine Rg.iceq 833 831 F_Law_828 rfl rfl (fun _ => ?_) (fun z => absurd rfl z)
  refine Rg.step 1459 F_Law_833 rfl (fun _ => rfl) ?_
  exact Rg.weak hg (by simp [lput1, lput2, Value.category, fi0, fi1, fi2, fi3] <;> first | rfl | exact ⟨rfl, rfl⟩) (by simp [lput1, lput2, Value.category, fi0, fi1, fi2, fi3] <;> first | rfl | exact ⟨rfl, rfl⟩)
theorem lwc_last (hs : s0 = .inl (.int, aI N sc)) (hN : N ≤ 2560) (hi : 0 ≤ i ∧ i + 4 < N) (hb : ∀ z, -2147483648 ≤ sc z ∧ sc z < 2147483648) (h : INV s0 n mem) : ∃ mem2, INV s0 (n + 1) mem2 ∧ ∀ o mem', Rg false 31 m_Law n0 1459 [(4, .int (iI i)), (0, .ref 0), (1, .ref 2), (2, .ref 168), (3, .ref 218)] [] mem2 o mem' → Rg false 31 m_Law n0 836 [(4, .int (iI i)), (0, .ref 0), (1, .ref 2), (2, .ref 168), (3, .ref 218)] [] mem o mem' := by
  have h0 := h.k0
  rw [hs] at h0
  obtain ⟨k, o1, mem1, mem2, hk, hc1, h01, ⟨fs1, h168⟩, hc2, hc3, hI, hQ⟩ := p_last (hb (i + 1)) (hb (i + 2)) (hb (i + 3)) h
  obtain rfl := hQ
  rw [hs] at h01
  obtain ⟨fs2, h1682⟩ := hI.k168
  refine ⟨mem2, hI, fun o mem' hg => ?_⟩
  refine Rg.step 837 F_Law_836 rfl (fun _ => rfl) ?_
  refine Rg.step 838 F_Law_837 rfl (fun _ => rfl) ?_
  refine Rg.step 840 F_Law_838 rfl (fun _ => rfl) ?_
  refine Rg.step 841 F_Law_840 rfl (fun _ => rfl) ?_
  refine Rg.addI 842 F_Law_841 rfl ?_
  refine Rg.sld 843 F_Law_842 rfl h0 (by omega) hN ?_
  refine Rg.step 844 F_Law_843 rfl (fun _ => rfl) ?_
  refine Rg.step 846 F_Law_844 rfl (fun _ => rfl) ?_
  refine Rg.step 847 F_Law_846 rfl (fun _ => rfl) ?_
  refine Rg.addI 848 F_Law_847 rfl ?_
  refine Rg.sld 849 F_Law_848 rfl h0 (by omega) hN ?_
  refine Rg.step 850 F_Law_849 rfl (fun _ => rfl) ?_
  refine Rg.step 852 F_Law_850 rfl (fun _ => rfl) ?_
  refine Rg.step 853 F_Law_852 rfl (fun _ => rfl) ?_
  refine Rg.addI 854 F_Law_853 rfl ?_
  refine Rg.sld 855 F_Law_854 rfl h0 (by omega) hN ?_
  refine Rg.call 858 F_Law_855 rfl (one_S (by decide +kernel) rM_0_143 (by decide) (by simp) rfl rfl) (Nat.le_of_ble_eq_true rfl) hc1 ?_
  refine Rg.step 860 F_Law_858 rfl (fun _ => rfl) ?_
  refine Rg.step 861 F_Law_860 rfl (fun _ => rfl) ?_
  refine Rg.step 862 F_Law_861 rfl (fun _ => rfl) ?_
  refine Rg.step 864 F_Law_862 rfl (fun _ => rfl) ?_
  refine Rg.step 865 F_Law_864 rfl (fun _ => rfl) ?_
  refine Rg.addI 866 F_Law_865 rfl ?_
  refine Rg.sld 867 F_Law_866 rfl h01 (by omega) hN ?_
  refine Rg.step 868 F_Law_867 rfl (fun _ => rfl) ?_
  refine Rg.step 870 F_Law_868 rfl (fun _ => rfl) ?_
  refine Rg.step 871 F_Law_870 rfl (fun _ => rfl) ?_
  refine Rg.addI 872 F_Law_871 rfl ?_
  refine Rg.sld 873 F_Law_872 rfl h01 (by omega) hN ?_
  refine Rg.step 874 F_Law_873 rfl (fun _ => rfl) ?_
  refine Rg.step 876 F_Law_874 rfl (fun _ => rfl) ?_
  refine Rg.step 877 F_Law_876 rfl (fun _ => rfl) ?_
  refine Rg.addI 878 F_Law_877 rfl ?_
  refine Rg.sld 879 F_Law_878 rfl h01 (by omega) hN ?_
  refine Rg.call 882 F_Law_879 rfl (one_V rM_0_146 (by decide) (by simp) rfl rfl h168 rfl) (Nat.le_of_ble_eq_true rfl) hc2 ?_
  refine Rg.step 883 F_Law_882 rfl (fun _ => rfl) ?_
  refine Rg.call 886 F_Law_883 rfl (one_V rM_0_101 (by decide) (by simp) rfl rfl h1682 rfl) (Nat.le_of_ble_eq_true rfl) hc3 ?_
  refine Rg.step 888 F_Law_886 rfl (fun _ => rfl) ?_
  refine Rg.iceq 893 891 F_Law_888 rfl rfl (fun _ => ?_) (fun z => absurd rfl z)
  refine Rg.step 1459 F_Law_893 rfl (fun _ => rfl) ?_
  exact Rg.weak hg (by simp [lput1, lput2, Value.category, fi0, fi1, fi2, fi3] <;> first | rfl | exact ⟨rfl, rfl⟩) (by simp [lput1, lput2, Value.category, fi0, fi1, fi2, fi3] <;> first | rfl | exact ⟨rfl, rfl⟩)
theorem lwc_step (hs : s0 = .inl (.int, aI N sc)) (hN : N ≤ 2560) (hi : 0 ≤ i ∧ i + 4 < N) (hb : ∀ z, -2147483648 ≤ sc z ∧ sc z < 2147483648) (h : INV s0 n mem) : ∃ mem2, INV s0 (n + 1) mem2 ∧ ∀ o mem', Rg false 31 m_Law n0 1459 [(4, .int (iI i)), (0, .ref 0), (1, .ref 2), (2, .ref 168), (3, .ref 218)] [] mem2 o mem' → Rg false 31 m_Law n0 896 [(4, .int (iI i)), (0, .ref 0), (1, .ref 2), (2, .ref 168), (3, .ref 218)] [] mem o mem' := by
  have h0 := h.k0
  rw [hs] at h0
  obtain ⟨k, o1, mem1, mem2, hk, hc1, h01, ⟨fs1, h168⟩, hc2, hc3, hI, hQ⟩ := p_step (hb (i + 1)) h
  obtain ⟨b, rfl, hq⟩ := hQ
  rw [hs] at h01
  obtain ⟨fs2, h1682⟩ := hI.k168
  refine ⟨mem2, hI, fun o mem' hg => ?_⟩
  refine Rg.step 897 F_Law_896 rfl (fun _ => rfl) ?_
  refine Rg.step 898 F_Law_897 rfl (fun _ => rfl) ?_
  refine Rg.step 900 F_Law_898 rfl (fun _ => rfl) ?_
  refine Rg.step 901 F_Law_900 rfl (fun _ => rfl) ?_
  refine Rg.addI 902 F_Law_901 rfl ?_
  refine Rg.sld 903 F_Law_902 rfl h0 (by omega) hN ?_
  refine Rg.step 904 F_Law_903 rfl (fun _ => rfl) ?_
  refine Rg.call 907 F_Law_904 rfl (one_S (by decide +kernel) rM_0_147 (by decide) (by simp) rfl rfl) (Nat.le_of_ble_eq_true rfl) hc1 ?_
  refine Rg.step 909 F_Law_907 rfl (fun _ => rfl) ?_
  refine Rg.step 910 F_Law_909 rfl (fun _ => rfl) ?_
  refine Rg.step 911 F_Law_910 rfl (fun _ => rfl) ?_
  refine Rg.step 913 F_Law_911 rfl (fun _ => rfl) ?_
  refine Rg.step 914 F_Law_913 rfl (fun _ => rfl) ?_
  refine Rg.addI 915 F_Law_914 rfl ?_
  refine Rg.sld 916 F_Law_915 rfl h01 (by omega) hN ?_
  refine Rg.call 919 F_Law_916 rfl (one_V rM_0_150 (by decide) (by simp) rfl rfl h168 rfl) (Nat.le_of_ble_eq_true rfl) hc2 ?_
  refine Rg.step 921 F_Law_919 rfl (fun _ => rfl) ?_
  refine Rg.step 922 F_Law_921 rfl (fun _ => rfl) ?_
  refine Rg.call 925 F_Law_922 rfl (one_V rM_0_101 (by decide) (by simp) rfl rfl h1682 rfl) (Nat.le_of_ble_eq_true rfl) hc3 ?_
  refine Rg.step 927 F_Law_925 rfl (fun _ => rfl) ?_
  refine Rg.iceq 932 930 F_Law_927 rfl rfl (fun _ => ?_) (fun z => absurd rfl z)
  refine Rg.step 934 F_Law_932 rfl (fun _ => rfl) ?_
  refine Rg.ifneI 949 937 F_Law_934 rfl rfl (by omega) (fun _ => ?_) (fun h0 => ?_)
  · skip
    refine Rg.step 1459 F_Law_949 rfl (fun _ => rfl) ?_
    exact Rg.weak hg (by simp [lput1, lput2, Value.category, fi0, fi1, fi2, fi3] <;> first | rfl | exact ⟨rfl, rfl⟩) (by simp [lput1, lput2, Value.category, fi0, fi1, fi2, fi3] <;> first | rfl | exact ⟨rfl, rfl⟩)
  · skip
    refine Rg.step 938 F_Law_937 rfl (fun _ => rfl) ?_
    refine Rg.step 939 F_Law_938 rfl (fun _ => rfl) ?_
    refine Rg.lald 940 F_Law_939 rfl (hq h0) (show ix (iI 0) = some 0 by decide) rfl ?_
    refine Rg.step 942 F_Law_940 rfl (fun _ => rfl) ?_
    refine Rg.step 943 F_Law_942 rfl (fun _ => rfl) ?_
    refine Rg.step 944 F_Law_943 rfl (fun _ => rfl) ?_
    refine Rg.ifeq 949 947 F_Law_944 rfl rfl (fun _ => ?_) (fun z => absurd ((lg_cmp_eq _ _).mpr rfl) z)
    refine Rg.step 1459 F_Law_949 rfl (fun _ => rfl) ?_
    exact Rg.weak hg (by simp [lput1, lput2, Value.category, fi0, fi1, fi2, fi3] <;> first | rfl | exact ⟨rfl, rfl⟩) (by simp [lput1, lput2, Value.category, fi0, fi1, fi2, fi3] <;> first | rfl | exact ⟨rfl, rfl⟩)
theorem lwc_clear (hs : s0 = .inl (.int, aI N sc)) (hN : N ≤ 2560) (hi : 0 ≤ i ∧ i + 4 < N) (hb : ∀ z, -2147483648 ≤ sc z ∧ sc z < 2147483648) (h : INV s0 n mem) : ∃ mem2, INV s0 (n + 1) mem2 ∧ ∀ o mem', Rg false 31 m_Law n0 1459 [(4, .int (iI i)), (0, .ref 0), (1, .ref 2), (2, .ref 168), (3, .ref 218)] [] mem2 o mem' → Rg false 31 m_Law n0 952 [(4, .int (iI i)), (0, .ref 0), (1, .ref 2), (2, .ref 168), (3, .ref 218)] [] mem o mem' := by
  have h0 := h.k0
  rw [hs] at h0
  obtain ⟨fs0, h2⟩ := h.k2
  obtain ⟨o1, mem1, mem2, hc1, h01, ⟨fs1, h168⟩, hc2, hI, hQ⟩ := p_clear h
  obtain rfl := hQ
  rw [hs] at h01
  refine ⟨mem2, hI, fun o mem' hg => ?_⟩
  refine Rg.step 953 F_Law_952 rfl (fun _ => rfl) ?_
  refine Rg.call 956 F_Law_953 rfl (one_V rM_0_151 (by decide) (by simp) rfl rfl h2 rfl) (Nat.le_of_ble_eq_true rfl) hc1 ?_
  refine Rg.step 957 F_Law_956 rfl (fun _ => rfl) ?_
  refine Rg.call 960 F_Law_957 rfl (one_V rM_0_154 (by decide) (by simp) rfl rfl h168 rfl) (Nat.le_of_ble_eq_true rfl) hc2 ?_
  refine Rg.step 1459 F_Law_960 rfl (fun _ => rfl) ?_
  exact Rg.weak hg (by simp [lput1, lput2, Value.category, fi0, fi1, fi2, fi3] <;> first | rfl | exact ⟨rfl, rfl⟩) (by simp [lput1, lput2, Value.category, fi0, fi1, fi2, fi3] <;> first | rfl | exact ⟨rfl, rfl⟩)
theorem lwc_judge (hs : s0 = .inl (.int, aI N sc)) (hN : N ≤ 2560) (hi : 0 ≤ i ∧ i + 4 < N) (hb : ∀ z, -2147483648 ≤ sc z ∧ sc z < 2147483648) (h : INV s0 n mem) : ∃ mem2, INV s0 (n + 1) mem2 ∧ ∀ o mem', Rg false 31 m_Law n0 1459 [(4, .int (iI i)), (0, .ref 0), (1, .ref 2), (2, .ref 168), (3, .ref 218)] [] mem2 o mem' → Rg false 31 m_Law n0 963 [(4, .int (iI i)), (0, .ref 0), (1, .ref 2), (2, .ref 168), (3, .ref 218)] [] mem o mem' := by
  have h0 := h.k0
  rw [hs] at h0
  obtain ⟨fs0, h2⟩ := h.k2
  obtain ⟨o1, mem1, mem2, hc1, h01, ⟨fs1, h168⟩, hc2, hI, hQ⟩ := p_judge h
  obtain ⟨b, rfl⟩ := hQ
  rw [hs] at h01
  refine ⟨mem2, hI, fun o mem' hg => ?_⟩
  refine Rg.step 964 F_Law_963 rfl (fun _ => rfl) ?_
  refine Rg.call 967 F_Law_964 rfl (one_V rM_0_155 (by decide) (by simp) rfl rfl h2 rfl) (Nat.le_of_ble_eq_true rfl) hc1 ?_
  refine Rg.step 968 F_Law_967 rfl (fun _ => rfl) ?_
  refine Rg.call 971 F_Law_968 rfl (one_V rM_0_158 (by decide) (by simp) rfl rfl h168 rfl) (Nat.le_of_ble_eq_true rfl) hc2 ?_
  refine Rg.iceq 1459 974 F_Law_971 rfl rfl (fun _ => ?_) (fun z => absurd rfl z)
  exact Rg.weak hg (by simp [lput1, lput2, Value.category, fi0, fi1, fi2, fi3] <;> first | rfl | exact ⟨rfl, rfl⟩) (by simp [lput1, lput2, Value.category, fi0, fi1, fi2, fi3] <;> first | rfl | exact ⟨rfl, rfl⟩)
theorem lwc_push (hs : s0 = .inl (.int, aI N sc)) (hN : N ≤ 2560) (hi : 0 ≤ i ∧ i + 4 < N) (hb : ∀ z, -2147483648 ≤ sc z ∧ sc z < 2147483648) (h : INV s0 n mem) : ∃ mem2, INV s0 (n + 1) mem2 ∧ ∀ o mem', Rg false 31 m_Law n0 1459 [(4, .int (iI i)), (0, .ref 0), (1, .ref 2), (2, .ref 168), (3, .ref 218)] [] mem2 o mem' → Rg false 31 m_Law n0 976 [(4, .int (iI i)), (0, .ref 0), (1, .ref 2), (2, .ref 168), (3, .ref 218)] [] mem o mem' := by
  have h0 := h.k0
  rw [hs] at h0
  obtain ⟨k, o1, mem1, mem2, hk, hc1, h01, ⟨fs1, h168⟩, hc2, hc3, hI, hQ⟩ := p_push (hb (i + 1)) h
  obtain rfl := hQ
  rw [hs] at h01
  obtain ⟨fs2, h1682⟩ := hI.k168
  refine ⟨mem2, hI, fun o mem' hg => ?_⟩
  refine Rg.step 977 F_Law_976 rfl (fun _ => rfl) ?_
  refine Rg.step 978 F_Law_977 rfl (fun _ => rfl) ?_
  refine Rg.step 980 F_Law_978 rfl (fun _ => rfl) ?_
  refine Rg.step 981 F_Law_980 rfl (fun _ => rfl) ?_
  refine Rg.addI 982 F_Law_981 rfl ?_
  refine Rg.sld 983 F_Law_982 rfl h0 (by omega) hN ?_
  refine Rg.call 986 F_Law_983 rfl (one_S (by decide +kernel) rM_0_159 (by decide) (by simp) rfl rfl) (Nat.le_of_ble_eq_true rfl) hc1 ?_
  refine Rg.step 988 F_Law_986 rfl (fun _ => rfl) ?_
  refine Rg.step 989 F_Law_988 rfl (fun _ => rfl) ?_
  refine Rg.step 990 F_Law_989 rfl (fun _ => rfl) ?_
  refine Rg.step 992 F_Law_990 rfl (fun _ => rfl) ?_
  refine Rg.step 993 F_Law_992 rfl (fun _ => rfl) ?_
  refine Rg.addI 994 F_Law_993 rfl ?_
  refine Rg.sld 995 F_Law_994 rfl h01 (by omega) hN ?_
  refine Rg.call 998 F_Law_995 rfl (one_V rM_0_161 (by decide) (by simp) rfl rfl h168 rfl) (Nat.le_of_ble_eq_true rfl) hc2 ?_
  refine Rg.step 999 F_Law_998 rfl (fun _ => rfl) ?_
  refine Rg.call 1002 F_Law_999 rfl (one_V rM_0_101 (by decide) (by simp) rfl rfl h1682 rfl) (Nat.le_of_ble_eq_true rfl) hc3 ?_
  refine Rg.step 1004 F_Law_1002 rfl (fun _ => rfl) ?_
  refine Rg.iceq 1009 1007 F_Law_1004 rfl rfl (fun _ => ?_) (fun z => absurd rfl z)
  refine Rg.step 1459 F_Law_1009 rfl (fun _ => rfl) ?_
  exact Rg.weak hg (by simp [lput1, lput2, Value.category, fi0, fi1, fi2, fi3] <;> first | rfl | exact ⟨rfl, rfl⟩) (by simp [lput1, lput2, Value.category, fi0, fi1, fi2, fi3] <;> first | rfl | exact ⟨rfl, rfl⟩)
theorem lwc_pop (hs : s0 = .inl (.int, aI N sc)) (hN : N ≤ 2560) (hi : 0 ≤ i ∧ i + 4 < N) (hb : ∀ z, -2147483648 ≤ sc z ∧ sc z < 2147483648) (h : INV s0 n mem) : ∃ mem2, INV s0 (n + 1) mem2 ∧ ∀ o mem', Rg false 31 m_Law n0 1459 [(4, .int (iI i)), (0, .ref 0), (1, .ref 2), (2, .ref 168), (3, .ref 218)] [] mem2 o mem' → Rg false 31 m_Law n0 1012 [(4, .int (iI i)), (0, .ref 0), (1, .ref 2), (2, .ref 168), (3, .ref 218)] [] mem o mem' := by
  have h0 := h.k0
  rw [hs] at h0
  obtain ⟨fs0, h2⟩ := h.k2
  obtain ⟨o1, mem1, mem2, hc1, h01, ⟨fs1, h168⟩, hc2, hI, hQ⟩ := p_pop h
  obtain ⟨b, rfl⟩ := hQ
  rw [hs] at h01
  refine ⟨mem2, hI, fun o mem' hg => ?_⟩
  refine Rg.step 1013 F_Law_1012 rfl (fun _ => rfl) ?_
  refine Rg.call 1016 F_Law_1013 rfl (one_V rM_0_162 (by decide) (by simp) rfl rfl h2 rfl) (Nat.le_of_ble_eq_true rfl) hc1 ?_
  refine Rg.step 1017 F_Law_1016 rfl (fun _ => rfl) ?_
  refine Rg.call 1020 F_Law_1017 rfl (one_V rM_0_165 (by decide) (by simp) rfl rfl h168 rfl) (Nat.le_of_ble_eq_true rfl) hc2 ?_
  refine Rg.iceq 1459 1023 F_Law_1020 rfl rfl (fun _ => ?_) (fun z => absurd rfl z)
  exact Rg.weak hg (by simp [lput1, lput2, Value.category, fi0, fi1, fi2, fi3] <;> first | rfl | exact ⟨rfl, rfl⟩) (by simp [lput1, lput2, Value.category, fi0, fi1, fi2, fi3] <;> first | rfl | exact ⟨rfl, rfl⟩)
theorem lwc_arrange (hs : s0 = .inl (.int, aI N sc)) (hN : N ≤ 2560) (hi : 0 ≤ i ∧ i + 4 < N) (hb : ∀ z, -2147483648 ≤ sc z ∧ sc z < 2147483648) (h : INV s0 n mem) : ∃ mem2, INV s0 (n + 1) mem2 ∧ ∀ o mem', Rg false 31 m_Law n0 1459 [(4, .int (iI i)), (0, .ref 0), (1, .ref 2), (2, .ref 168), (3, .ref 218)] [] mem2 o mem' → Rg false 31 m_Law n0 1025 [(4, .int (iI i)), (0, .ref 0), (1, .ref 2), (2, .ref 168), (3, .ref 218)] [] mem o mem' := by
  have h0 := h.k0
  rw [hs] at h0
  obtain ⟨k, o1, mem1, mem2, hk, hc1, h01, ⟨fs1, h168⟩, hc2, hc3, hI, hQ⟩ := p_arrange  h
  obtain ⟨b, rfl, hq⟩ := hQ
  rw [hs] at h01
  obtain ⟨fs2, h1682⟩ := hI.k168
  refine ⟨mem2, hI, fun o mem' hg => ?_⟩
  refine Rg.step 1026 F_Law_1025 rfl (fun _ => rfl) ?_
  refine Rg.step 1027 F_Law_1026 rfl (fun _ => rfl) ?_
  refine Rg.call 1030 F_Law_1027 rfl (one_S (by decide +kernel) rM_0_166 (by decide) (by simp) rfl rfl) (Nat.le_of_ble_eq_true rfl) hc1 ?_
  refine Rg.step 1032 F_Law_1030 rfl (fun _ => rfl) ?_
  refine Rg.step 1033 F_Law_1032 rfl (fun _ => rfl) ?_
  refine Rg.call 1036 F_Law_1033 rfl (one_V rM_0_168 (by decide) (by simp) rfl rfl h168 rfl) (Nat.le_of_ble_eq_true rfl) hc2 ?_
  refine Rg.step 1038 F_Law_1036 rfl (fun _ => rfl) ?_
  refine Rg.step 1039 F_Law_1038 rfl (fun _ => rfl) ?_
  refine Rg.call 1042 F_Law_1039 rfl (one_V rM_0_101 (by decide) (by simp) rfl rfl h1682 rfl) (Nat.le_of_ble_eq_true rfl) hc3 ?_
  refine Rg.step 1044 F_Law_1042 rfl (fun _ => rfl) ?_
  refine Rg.iceq 1049 1047 F_Law_1044 rfl rfl (fun _ => ?_) (fun z => absurd rfl z)
  refine Rg.step 1051 F_Law_1049 rfl (fun _ => rfl) ?_
  refine Rg.ifneI 1066 1054 F_Law_1051 rfl rfl (by omega) (fun _ => ?_) (fun h0 => ?_)
  · skip
    refine Rg.step 1459 F_Law_1066 rfl (fun _ => rfl) ?_
    exact Rg.weak hg (by simp [lput1, lput2, Value.category, fi0, fi1, fi2, fi3] <;> first | rfl | exact ⟨rfl, rfl⟩) (by simp [lput1, lput2, Value.category, fi0, fi1, fi2, fi3] <;> first | rfl | exact ⟨rfl, rfl⟩)
  · skip
    refine Rg.step 1055 F_Law_1054 rfl (fun _ => rfl) ?_
    refine Rg.step 1056 F_Law_1055 rfl (fun _ => rfl) ?_
    refine Rg.lald 1057 F_Law_1056 rfl (hq h0) (show ix (iI 0) = some 0 by decide) rfl ?_
    refine Rg.step 1059 F_Law_1057 rfl (fun _ => rfl) ?_
    refine Rg.step 1060 F_Law_1059 rfl (fun _ => rfl) ?_
    refine Rg.step 1061 F_Law_1060 rfl (fun _ => rfl) ?_
    refine Rg.ifeq 1066 1064 F_Law_1061 rfl rfl (fun _ => ?_) (fun z => absurd ((lg_cmp_eq _ _).mpr rfl) z)
    refine Rg.step 1459 F_Law_1066 rfl (fun _ => rfl) ?_
    exact Rg.weak hg (by simp [lput1, lput2, Value.category, fi0, fi1, fi2, fi3] <;> first | rfl | exact ⟨rfl, rfl⟩) (by simp [lput1, lput2, Value.category, fi0, fi1, fi2, fi3] <;> first | rfl | exact ⟨rfl, rfl⟩)
theorem lwc_seek (hs : s0 = .inl (.int, aI N sc)) (hN : N ≤ 2560) (hi : 0 ≤ i ∧ i + 4 < N) (hb : ∀ z, -2147483648 ≤ sc z ∧ sc z < 2147483648) (h : INV s0 n mem) : ∃ mem2, INV s0 (n + 1) mem2 ∧ ∀ o mem', Rg false 31 m_Law n0 1459 [(4, .int (iI i)), (0, .ref 0), (1, .ref 2), (2, .ref 168), (3, .ref 218)] [] mem2 o mem' → Rg false 31 m_Law n0 1069 [(4, .int (iI i)), (0, .ref 0), (1, .ref 2), (2, .ref 168), (3, .ref 218)] [] mem o mem' := by
  have h0 := h.k0
  rw [hs] at h0
  obtain ⟨k, o1, mem1, mem2, hk, hc1, h01, ⟨fs1, h168⟩, hc2, hc3, hI, hQ⟩ := p_seek (hb (i + 1)) h
  obtain ⟨b, rfl, hq⟩ := hQ
  rw [hs] at h01
  obtain ⟨fs2, h1682⟩ := hI.k168
  refine ⟨mem2, hI, fun o mem' hg => ?_⟩
  refine Rg.step 1070 F_Law_1069 rfl (fun _ => rfl) ?_
  refine Rg.step 1071 F_Law_1070 rfl (fun _ => rfl) ?_
  refine Rg.step 1073 F_Law_1071 rfl (fun _ => rfl) ?_
  refine Rg.step 1074 F_Law_1073 rfl (fun _ => rfl) ?_
  refine Rg.addI 1075 F_Law_1074 rfl ?_
  refine Rg.sld 1076 F_Law_1075 rfl h0 (by omega) hN ?_
  refine Rg.step 1077 F_Law_1076 rfl (fun _ => rfl) ?_
  refine Rg.call 1080 F_Law_1077 rfl (one_S (by decide +kernel) rM_0_169 (by decide) (by simp) rfl rfl) (Nat.le_of_ble_eq_true rfl) hc1 ?_
  refine Rg.step 1082 F_Law_1080 rfl (fun _ => rfl) ?_
  refine Rg.step 1083 F_Law_1082 rfl (fun _ => rfl) ?_
  refine Rg.step 1084 F_Law_1083 rfl (fun _ => rfl) ?_
  refine Rg.step 1086 F_Law_1084 rfl (fun _ => rfl) ?_
  refine Rg.step 1087 F_Law_1086 rfl (fun _ => rfl) ?_
  refine Rg.addI 1088 F_Law_1087 rfl ?_
  refine Rg.sld 1089 F_Law_1088 rfl h01 (by omega) hN ?_
  refine Rg.call 1092 F_Law_1089 rfl (one_V rM_0_171 (by decide) (by simp) rfl rfl h168 rfl) (Nat.le_of_ble_eq_true rfl) hc2 ?_
  refine Rg.step 1094 F_Law_1092 rfl (fun _ => rfl) ?_
  refine Rg.step 1095 F_Law_1094 rfl (fun _ => rfl) ?_
  refine Rg.call 1098 F_Law_1095 rfl (one_V rM_0_101 (by decide) (by simp) rfl rfl h1682 rfl) (Nat.le_of_ble_eq_true rfl) hc3 ?_
  refine Rg.step 1100 F_Law_1098 rfl (fun _ => rfl) ?_
  refine Rg.iceq 1105 1103 F_Law_1100 rfl rfl (fun _ => ?_) (fun z => absurd rfl z)
  refine Rg.step 1107 F_Law_1105 rfl (fun _ => rfl) ?_
  refine Rg.ifneI 1122 1110 F_Law_1107 rfl rfl (by omega) (fun _ => ?_) (fun h0 => ?_)
  · skip
    refine Rg.step 1459 F_Law_1122 rfl (fun _ => rfl) ?_
    exact Rg.weak hg (by simp [lput1, lput2, Value.category, fi0, fi1, fi2, fi3] <;> first | rfl | exact ⟨rfl, rfl⟩) (by simp [lput1, lput2, Value.category, fi0, fi1, fi2, fi3] <;> first | rfl | exact ⟨rfl, rfl⟩)
  · skip
    refine Rg.step 1111 F_Law_1110 rfl (fun _ => rfl) ?_
    refine Rg.step 1112 F_Law_1111 rfl (fun _ => rfl) ?_
    refine Rg.lald 1113 F_Law_1112 rfl (hq h0) (show ix (iI 0) = some 0 by decide) rfl ?_
    refine Rg.step 1115 F_Law_1113 rfl (fun _ => rfl) ?_
    refine Rg.step 1116 F_Law_1115 rfl (fun _ => rfl) ?_
    refine Rg.step 1117 F_Law_1116 rfl (fun _ => rfl) ?_
    refine Rg.ifeq 1122 1120 F_Law_1117 rfl rfl (fun _ => ?_) (fun z => absurd ((lg_cmp_eq _ _).mpr rfl) z)
    refine Rg.step 1459 F_Law_1122 rfl (fun _ => rfl) ?_
    exact Rg.weak hg (by simp [lput1, lput2, Value.category, fi0, fi1, fi2, fi3] <;> first | rfl | exact ⟨rfl, rfl⟩) (by simp [lput1, lput2, Value.category, fi0, fi1, fi2, fi3] <;> first | rfl | exact ⟨rfl, rfl⟩)
theorem lwc_count (hs : s0 = .inl (.int, aI N sc)) (hN : N ≤ 2560) (hi : 0 ≤ i ∧ i + 4 < N) (hb : ∀ z, -2147483648 ≤ sc z ∧ sc z < 2147483648) (h : INV s0 n mem) : ∃ mem2, INV s0 (n + 1) mem2 ∧ ∀ o mem', Rg false 31 m_Law n0 1459 [(4, .int (iI i)), (0, .ref 0), (1, .ref 2), (2, .ref 168), (3, .ref 218)] [] mem2 o mem' → Rg false 31 m_Law n0 1125 [(4, .int (iI i)), (0, .ref 0), (1, .ref 2), (2, .ref 168), (3, .ref 218)] [] mem o mem' := by
  have h0 := h.k0
  rw [hs] at h0
  obtain ⟨k, o1, mem1, mem2, hk, hc1, h01, ⟨fs1, h168⟩, hc2, hc3, hI, hQ⟩ := p_count (hb (i + 1)) h
  obtain ⟨b, rfl, hq⟩ := hQ
  rw [hs] at h01
  obtain ⟨fs2, h1682⟩ := hI.k168
  refine ⟨mem2, hI, fun o mem' hg => ?_⟩
  refine Rg.step 1126 F_Law_1125 rfl (fun _ => rfl) ?_
  refine Rg.step 1127 F_Law_1126 rfl (fun _ => rfl) ?_
  refine Rg.step 1129 F_Law_1127 rfl (fun _ => rfl) ?_
  refine Rg.step 1130 F_Law_1129 rfl (fun _ => rfl) ?_
  refine Rg.addI 1131 F_Law_1130 rfl ?_
  refine Rg.sld 1132 F_Law_1131 rfl h0 (by omega) hN ?_
  refine Rg.step 1133 F_Law_1132 rfl (fun _ => rfl) ?_
  refine Rg.call 1136 F_Law_1133 rfl (one_S (by decide +kernel) rM_0_172 (by decide) (by simp) rfl rfl) (Nat.le_of_ble_eq_true rfl) hc1 ?_
  refine Rg.step 1138 F_Law_1136 rfl (fun _ => rfl) ?_
  refine Rg.step 1139 F_Law_1138 rfl (fun _ => rfl) ?_
  refine Rg.step 1140 F_Law_1139 rfl (fun _ => rfl) ?_
  refine Rg.step 1142 F_Law_1140 rfl (fun _ => rfl) ?_
  refine Rg.step 1143 F_Law_1142 rfl (fun _ => rfl) ?_
  refine Rg.addI 1144 F_Law_1143 rfl ?_
  refine Rg.sld 1145 F_Law_1144 rfl h01 (by omega) hN ?_
  refine Rg.call 1148 F_Law_1145 rfl (one_V rM_0_174 (by decide) (by simp) rfl rfl h168 rfl) (Nat.le_of_ble_eq_true rfl) hc2 ?_
  refine Rg.step 1150 F_Law_1148 rfl (fun _ => rfl) ?_
  refine Rg.step 1151 F_Law_1150 rfl (fun _ => rfl) ?_
  refine Rg.call 1154 F_Law_1151 rfl (one_V rM_0_101 (by decide) (by simp) rfl rfl h1682 rfl) (Nat.le_of_ble_eq_true rfl) hc3 ?_
  refine Rg.step 1156 F_Law_1154 rfl (fun _ => rfl) ?_
  refine Rg.iceq 1161 1159 F_Law_1156 rfl rfl (fun _ => ?_) (fun z => absurd rfl z)
  refine Rg.step 1163 F_Law_1161 rfl (fun _ => rfl) ?_
  refine Rg.ifneI 1178 1166 F_Law_1163 rfl rfl (by omega) (fun _ => ?_) (fun h0 => ?_)
  · skip
    refine Rg.step 1459 F_Law_1178 rfl (fun _ => rfl) ?_
    exact Rg.weak hg (by simp [lput1, lput2, Value.category, fi0, fi1, fi2, fi3] <;> first | rfl | exact ⟨rfl, rfl⟩) (by simp [lput1, lput2, Value.category, fi0, fi1, fi2, fi3] <;> first | rfl | exact ⟨rfl, rfl⟩)
  · skip
    refine Rg.step 1167 F_Law_1166 rfl (fun _ => rfl) ?_
    refine Rg.step 1168 F_Law_1167 rfl (fun _ => rfl) ?_
    refine Rg.lald 1169 F_Law_1168 rfl (hq h0) (show ix (iI 0) = some 0 by decide) rfl ?_
    refine Rg.step 1171 F_Law_1169 rfl (fun _ => rfl) ?_
    refine Rg.step 1172 F_Law_1171 rfl (fun _ => rfl) ?_
    refine Rg.step 1173 F_Law_1172 rfl (fun _ => rfl) ?_
    refine Rg.ifeq 1178 1176 F_Law_1173 rfl rfl (fun _ => ?_) (fun z => absurd ((lg_cmp_eq _ _).mpr rfl) z)
    refine Rg.step 1459 F_Law_1178 rfl (fun _ => rfl) ?_
    exact Rg.weak hg (by simp [lput1, lput2, Value.category, fi0, fi1, fi2, fi3] <;> first | rfl | exact ⟨rfl, rfl⟩) (by simp [lput1, lput2, Value.category, fi0, fi1, fi2, fi3] <;> first | rfl | exact ⟨rfl, rfl⟩)
theorem lwc_done (hs : s0 = .inl (.int, aI N sc)) (hN : N ≤ 2560) (hi : 0 ≤ i ∧ i + 4 < N) (hb : ∀ z, -2147483648 ≤ sc z ∧ sc z < 2147483648) (h : INV s0 n mem) : ∃ mem2, INV s0 (n + 1) mem2 ∧ ∀ o mem', Rg false 31 m_Law n0 1459 [(4, .int (iI i)), (0, .ref 0), (1, .ref 2), (2, .ref 168), (3, .ref 218)] [] mem2 o mem' → Rg false 31 m_Law n0 1181 [(4, .int (iI i)), (0, .ref 0), (1, .ref 2), (2, .ref 168), (3, .ref 218)] [] mem o mem' := by
  have h0 := h.k0
  rw [hs] at h0
  obtain ⟨k, o1, mem1, mem2, hk, hc1, h01, ⟨fs1, h168⟩, hc2, hc3, hI, hQ⟩ := p_done (hb (i + 1)) h
  obtain ⟨b, rfl, hq⟩ := hQ
  rw [hs] at h01
  obtain ⟨fs2, h1682⟩ := hI.k168
  refine ⟨mem2, hI, fun o mem' hg => ?_⟩
  refine Rg.step 1182 F_Law_1181 rfl (fun _ => rfl) ?_
  refine Rg.step 1183 F_Law_1182 rfl (fun _ => rfl) ?_
  refine Rg.step 1185 F_Law_1183 rfl (fun _ => rfl) ?_
  refine Rg.step 1186 F_Law_1185 rfl (fun _ => rfl) ?_
  refine Rg.addI 1187 F_Law_1186 rfl ?_
  refine Rg.sld 1188 F_Law_1187 rfl h0 (by omega) hN ?_
  refine Rg.step 1189 F_Law_1188 rfl (fun _ => rfl) ?_
  refine Rg.call 1192 F_Law_1189 rfl (one_S (by decide +kernel) rM_0_175 (by decide) (by simp) rfl rfl) (Nat.le_of_ble_eq_true rfl) hc1 ?_
  refine Rg.step 1194 F_Law_1192 rfl (fun _ => rfl) ?_
  refine Rg.step 1195 F_Law_1194 rfl (fun _ => rfl) ?_
  refine Rg.step 1196 F_Law_1195 rfl (fun _ => rfl) ?_
  refine Rg.step 1198 F_Law_1196 rfl (fun _ => rfl) ?_
  refine Rg.step 1199 F_Law_1198 rfl (fun _ => rfl) ?_
  refine Rg.addI 1200 F_Law_1199 rfl ?_
  refine Rg.sld 1201 F_Law_1200 rfl h01 (by omega) hN ?_
  refine Rg.call 1204 F_Law_1201 rfl (one_V rM_0_177 (by decide) (by simp) rfl rfl h168 rfl) (Nat.le_of_ble_eq_true rfl) hc2 ?_
  refine Rg.step 1206 F_Law_1204 rfl (fun _ => rfl) ?_
  refine Rg.step 1207 F_Law_1206 rfl (fun _ => rfl) ?_
  refine Rg.call 1210 F_Law_1207 rfl (one_V rM_0_101 (by decide) (by simp) rfl rfl h1682 rfl) (Nat.le_of_ble_eq_true rfl) hc3 ?_
  refine Rg.step 1212 F_Law_1210 rfl (fun _ => rfl) ?_
  refine Rg.iceq 1217 1215 F_Law_1212 rfl rfl (fun _ => ?_) (fun z => absurd rfl z)
  refine Rg.step 1219 F_Law_1217 rfl (fun _ => rfl) ?_
  refine Rg.ifneI 1234 1222 F_Law_1219 rfl rfl (by omega) (fun _ => ?_) (fun h0 => ?_)
  · skip
    refine Rg.step 1459 F_Law_1234 rfl (fun _ => rfl) ?_
    exact Rg.weak hg (by simp [lput1, lput2, Value.category, fi0, fi1, fi2, fi3] <;> first | rfl | exact ⟨rfl, rfl⟩) (by simp [lput1, lput2, Value.category, fi0, fi1, fi2, fi3] <;> first | rfl | exact ⟨rfl, rfl⟩)
  · skip
    refine Rg.step 1223 F_Law_1222 rfl (fun _ => rfl) ?_
    refine Rg.step 1224 F_Law_1223 rfl (fun _ => rfl) ?_
    refine Rg.lald 1225 F_Law_1224 rfl (hq h0) (show ix (iI 0) = some 0 by decide) rfl ?_
    refine Rg.step 1227 F_Law_1225 rfl (fun _ => rfl) ?_
    refine Rg.step 1228 F_Law_1227 rfl (fun _ => rfl) ?_
    refine Rg.step 1229 F_Law_1228 rfl (fun _ => rfl) ?_
    refine Rg.ifeq 1234 1232 F_Law_1229 rfl rfl (fun _ => ?_) (fun z => absurd ((lg_cmp_eq _ _).mpr rfl) z)
    refine Rg.step 1459 F_Law_1234 rfl (fun _ => rfl) ?_
    exact Rg.weak hg (by simp [lput1, lput2, Value.category, fi0, fi1, fi2, fi3] <;> first | rfl | exact ⟨rfl, rfl⟩) (by simp [lput1, lput2, Value.category, fi0, fi1, fi2, fi3] <;> first | rfl | exact ⟨rfl, rfl⟩)
theorem lwc_at (hs : s0 = .inl (.int, aI N sc)) (hN : N ≤ 2560) (hi : 0 ≤ i ∧ i + 4 < N) (hb : ∀ z, -2147483648 ≤ sc z ∧ sc z < 2147483648) (h : INV s0 n mem) : ∃ mem2, INV s0 (n + 1) mem2 ∧ ∀ o mem', Rg false 31 m_Law n0 1459 [(4, .int (iI i)), (0, .ref 0), (1, .ref 2), (2, .ref 168), (3, .ref 218)] [] mem2 o mem' → Rg false 31 m_Law n0 1237 [(4, .int (iI i)), (0, .ref 0), (1, .ref 2), (2, .ref 168), (3, .ref 218)] [] mem o mem' := by
  have h0 := h.k0
  rw [hs] at h0
  obtain ⟨fs0, h2⟩ := h.k2
  obtain ⟨o1, mem1, mem2, hc1, h01, ⟨fs1, h168⟩, hc2, hI, hQ⟩ := p_at (hb (i + 1)) h
  obtain ⟨b, rfl⟩ := hQ
  rw [hs] at h01
  refine ⟨mem2, hI, fun o mem' hg => ?_⟩
  refine Rg.step 1238 F_Law_1237 rfl (fun _ => rfl) ?_
  refine Rg.step 1239 F_Law_1238 rfl (fun _ => rfl) ?_
  refine Rg.step 1241 F_Law_1239 rfl (fun _ => rfl) ?_
  refine Rg.step 1242 F_Law_1241 rfl (fun _ => rfl) ?_
  refine Rg.addI 1243 F_Law_1242 rfl ?_
  refine Rg.sld 1244 F_Law_1243 rfl h0 (by omega) hN ?_
  refine Rg.call 1247 F_Law_1244 rfl (one_V rM_0_178 (by decide) (by simp) rfl rfl h2 rfl) (Nat.le_of_ble_eq_true rfl) hc1 ?_
  refine Rg.step 1248 F_Law_1247 rfl (fun _ => rfl) ?_
  refine Rg.step 1249 F_Law_1248 rfl (fun _ => rfl) ?_
  refine Rg.step 1251 F_Law_1249 rfl (fun _ => rfl) ?_
  refine Rg.step 1252 F_Law_1251 rfl (fun _ => rfl) ?_
  refine Rg.addI 1253 F_Law_1252 rfl ?_
  refine Rg.sld 1254 F_Law_1253 rfl h01 (by omega) hN ?_
  refine Rg.call 1257 F_Law_1254 rfl (one_V rM_0_181 (by decide) (by simp) rfl rfl h168 rfl) (Nat.le_of_ble_eq_true rfl) hc2 ?_
  refine Rg.iceq 1459 1260 F_Law_1257 rfl rfl (fun _ => ?_) (fun z => absurd rfl z)
  exact Rg.weak hg (by simp [lput1, lput2, Value.category, fi0, fi1, fi2, fi3] <;> first | rfl | exact ⟨rfl, rfl⟩) (by simp [lput1, lput2, Value.category, fi0, fi1, fi2, fi3] <;> first | rfl | exact ⟨rfl, rfl⟩)
theorem lwc_above (hs : s0 = .inl (.int, aI N sc)) (hN : N ≤ 2560) (hi : 0 ≤ i ∧ i + 4 < N) (hb : ∀ z, -2147483648 ≤ sc z ∧ sc z < 2147483648) (h : INV s0 n mem) : ∃ mem2, INV s0 (n + 1) mem2 ∧ ∀ o mem', Rg false 31 m_Law n0 1459 [(4, .int (iI i)), (0, .ref 0), (1, .ref 2), (2, .ref 168), (3, .ref 218)] [] mem2 o mem' → Rg false 31 m_Law n0 1262 [(4, .int (iI i)), (0, .ref 0), (1, .ref 2), (2, .ref 168), (3, .ref 218)] [] mem o mem' := by
  have h0 := h.k0
  rw [hs] at h0
  obtain ⟨k, o1, mem1, mem2, hk, hc1, h01, ⟨fs1, h168⟩, hc2, hc3, hI, hQ⟩ := p_above (hb (i + 1)) (hb (i + 2)) h
  obtain ⟨b, rfl, hq⟩ := hQ
  rw [hs] at h01
  obtain ⟨fs2, h1682⟩ := hI.k168
  refine ⟨mem2, hI, fun o mem' hg => ?_⟩
  refine Rg.step 1263 F_Law_1262 rfl (fun _ => rfl) ?_
  refine Rg.step 1264 F_Law_1263 rfl (fun _ => rfl) ?_
  refine Rg.step 1266 F_Law_1264 rfl (fun _ => rfl) ?_
  refine Rg.step 1267 F_Law_1266 rfl (fun _ => rfl) ?_
  refine Rg.addI 1268 F_Law_1267 rfl ?_
  refine Rg.sld 1269 F_Law_1268 rfl h0 (by omega) hN ?_
  refine Rg.step 1270 F_Law_1269 rfl (fun _ => rfl) ?_
  refine Rg.step 1272 F_Law_1270 rfl (fun _ => rfl) ?_
  refine Rg.step 1273 F_Law_1272 rfl (fun _ => rfl) ?_
  refine Rg.addI 1274 F_Law_1273 rfl ?_
  refine Rg.sld 1275 F_Law_1274 rfl h0 (by omega) hN ?_
  refine Rg.step 1276 F_Law_1275 rfl (fun _ => rfl) ?_
  refine Rg.call 1279 F_Law_1276 rfl (one_S (by decide +kernel) rM_0_182 (by decide) (by simp) rfl rfl) (Nat.le_of_ble_eq_true rfl) hc1 ?_
  refine Rg.step 1281 F_Law_1279 rfl (fun _ => rfl) ?_
  refine Rg.step 1282 F_Law_1281 rfl (fun _ => rfl) ?_
  refine Rg.step 1283 F_Law_1282 rfl (fun _ => rfl) ?_
  refine Rg.step 1285 F_Law_1283 rfl (fun _ => rfl) ?_
  refine Rg.step 1286 F_Law_1285 rfl (fun _ => rfl) ?_
  refine Rg.addI 1287 F_Law_1286 rfl ?_
  refine Rg.sld 1288 F_Law_1287 rfl h01 (by omega) hN ?_
  refine Rg.step 1289 F_Law_1288 rfl (fun _ => rfl) ?_
  refine Rg.step 1291 F_Law_1289 rfl (fun _ => rfl) ?_
  refine Rg.step 1292 F_Law_1291 rfl (fun _ => rfl) ?_
  refine Rg.addI 1293 F_Law_1292 rfl ?_
  refine Rg.sld 1294 F_Law_1293 rfl h01 (by omega) hN ?_
  refine Rg.call 1297 F_Law_1294 rfl (one_V rM_0_185 (by decide) (by simp) rfl rfl h168 rfl) (Nat.le_of_ble_eq_true rfl) hc2 ?_
  refine Rg.step 1299 F_Law_1297 rfl (fun _ => rfl) ?_
  refine Rg.step 1300 F_Law_1299 rfl (fun _ => rfl) ?_
  refine Rg.call 1303 F_Law_1300 rfl (one_V rM_0_101 (by decide) (by simp) rfl rfl h1682 rfl) (Nat.le_of_ble_eq_true rfl) hc3 ?_
  refine Rg.step 1305 F_Law_1303 rfl (fun _ => rfl) ?_
  refine Rg.iceq 1310 1308 F_Law_1305 rfl rfl (fun _ => ?_) (fun z => absurd rfl z)
  refine Rg.step 1312 F_Law_1310 rfl (fun _ => rfl) ?_
  refine Rg.ifneI 1326 1315 F_Law_1312 rfl rfl (by omega) (fun _ => ?_) (fun h0 => ?_)
  · skip
    refine Rg.step 1459 F_Law_1326 rfl (fun _ => rfl) ?_
    exact Rg.weak hg (by simp [lput1, lput2, Value.category, fi0, fi1, fi2, fi3] <;> first | rfl | exact ⟨rfl, rfl⟩) (by simp [lput1, lput2, Value.category, fi0, fi1, fi2, fi3] <;> first | rfl | exact ⟨rfl, rfl⟩)
  · skip
    refine Rg.step 1316 F_Law_1315 rfl (fun _ => rfl) ?_
    refine Rg.step 1317 F_Law_1316 rfl (fun _ => rfl) ?_
    refine Rg.lald 1318 F_Law_1317 rfl (hq h0) (show ix (iI 0) = some 0 by decide) rfl ?_
    refine Rg.step 1320 F_Law_1318 rfl (fun _ => rfl) ?_
    refine Rg.step 1321 F_Law_1320 rfl (fun _ => rfl) ?_
    refine Rg.ifeq 1326 1324 F_Law_1321 rfl rfl (fun _ => ?_) (fun z => absurd ((lg_cmp_eq _ _).mpr rfl) z)
    refine Rg.step 1459 F_Law_1326 rfl (fun _ => rfl) ?_
    exact Rg.weak hg (by simp [lput1, lput2, Value.category, fi0, fi1, fi2, fi3] <;> first | rfl | exact ⟨rfl, rfl⟩) (by simp [lput1, lput2, Value.category, fi0, fi1, fi2, fi3] <;> first | rfl | exact ⟨rfl, rfl⟩)
theorem lwc_below (hs : s0 = .inl (.int, aI N sc)) (hN : N ≤ 2560) (hi : 0 ≤ i ∧ i + 4 < N) (hb : ∀ z, -2147483648 ≤ sc z ∧ sc z < 2147483648) (h : INV s0 n mem) : ∃ mem2, INV s0 (n + 1) mem2 ∧ ∀ o mem', Rg false 31 m_Law n0 1459 [(4, .int (iI i)), (0, .ref 0), (1, .ref 2), (2, .ref 168), (3, .ref 218)] [] mem2 o mem' → Rg false 31 m_Law n0 1329 [(4, .int (iI i)), (0, .ref 0), (1, .ref 2), (2, .ref 168), (3, .ref 218)] [] mem o mem' := by
  have h0 := h.k0
  rw [hs] at h0
  obtain ⟨k, o1, mem1, mem2, hk, hc1, h01, ⟨fs1, h168⟩, hc2, hc3, hI, hQ⟩ := p_below (hb (i + 1)) (hb (i + 2)) h
  obtain ⟨b, rfl, hq⟩ := hQ
  rw [hs] at h01
  obtain ⟨fs2, h1682⟩ := hI.k168
  refine ⟨mem2, hI, fun o mem' hg => ?_⟩
  refine Rg.step 1330 F_Law_1329 rfl (fun _ => rfl) ?_
  refine Rg.step 1331 F_Law_1330 rfl (fun _ => rfl) ?_
  refine Rg.step 1333 F_Law_1331 rfl (fun _ => rfl) ?_
  refine Rg.step 1334 F_Law_1333 rfl (fun _ => rfl) ?_
  refine Rg.addI 1335 F_Law_1334 rfl ?_
  refine Rg.sld 1336 F_Law_1335 rfl h0 (by omega) hN ?_
  refine Rg.step 1337 F_Law_1336 rfl (fun _ => rfl) ?_
  refine Rg.step 1339 F_Law_1337 rfl (fun _ => rfl) ?_
  refine Rg.step 1340 F_Law_1339 rfl (fun _ => rfl) ?_
  refine Rg.addI 1341 F_Law_1340 rfl ?_
  refine Rg.sld 1342 F_Law_1341 rfl h0 (by omega) hN ?_
  refine Rg.step 1343 F_Law_1342 rfl (fun _ => rfl) ?_
  refine Rg.call 1346 F_Law_1343 rfl (one_S (by decide +kernel) rM_0_186 (by decide) (by simp) rfl rfl) (Nat.le_of_ble_eq_true rfl) hc1 ?_
  refine Rg.step 1348 F_Law_1346 rfl (fun _ => rfl) ?_
  refine Rg.step 1349 F_Law_1348 rfl (fun _ => rfl) ?_
  refine Rg.step 1350 F_Law_1349 rfl (fun _ => rfl) ?_
  refine Rg.step 1352 F_Law_1350 rfl (fun _ => rfl) ?_
  refine Rg.step 1353 F_Law_1352 rfl (fun _ => rfl) ?_
  refine Rg.addI 1354 F_Law_1353 rfl ?_
  refine Rg.sld 1355 F_Law_1354 rfl h01 (by omega) hN ?_
  refine Rg.step 1356 F_Law_1355 rfl (fun _ => rfl) ?_
  refine Rg.step 1358 F_Law_1356 rfl (fun _ => rfl) ?_
  refine Rg.step 1359 F_Law_1358 rfl (fun _ => rfl) ?_
  refine Rg.addI 1360 F_Law_1359 rfl ?_
  refine Rg.sld 1361 F_Law_1360 rfl h01 (by omega) hN ?_
  refine Rg.call 1364 F_Law_1361 rfl (one_V rM_0_188 (by decide) (by simp) rfl rfl h168 rfl) (Nat.le_of_ble_eq_true rfl) hc2 ?_
  refine Rg.step 1366 F_Law_1364 rfl (fun _ => rfl) ?_
  refine Rg.step 1367 F_Law_1366 rfl (fun _ => rfl) ?_
  refine Rg.call 1370 F_Law_1367 rfl (one_V rM_0_101 (by decide) (by simp) rfl rfl h1682 rfl) (Nat.le_of_ble_eq_true rfl) hc3 ?_
  refine Rg.step 1372 F_Law_1370 rfl (fun _ => rfl) ?_
  refine Rg.iceq 1377 1375 F_Law_1372 rfl rfl (fun _ => ?_) (fun z => absurd rfl z)
  refine Rg.step 1379 F_Law_1377 rfl (fun _ => rfl) ?_
  refine Rg.ifneI 1393 1382 F_Law_1379 rfl rfl (by omega) (fun _ => ?_) (fun h0 => ?_)
  · skip
    refine Rg.step 1459 F_Law_1393 rfl (fun _ => rfl) ?_
    exact Rg.weak hg (by simp [lput1, lput2, Value.category, fi0, fi1, fi2, fi3] <;> first | rfl | exact ⟨rfl, rfl⟩) (by simp [lput1, lput2, Value.category, fi0, fi1, fi2, fi3] <;> first | rfl | exact ⟨rfl, rfl⟩)
  · skip
    refine Rg.step 1383 F_Law_1382 rfl (fun _ => rfl) ?_
    refine Rg.step 1384 F_Law_1383 rfl (fun _ => rfl) ?_
    refine Rg.lald 1385 F_Law_1384 rfl (hq h0) (show ix (iI 0) = some 0 by decide) rfl ?_
    refine Rg.step 1387 F_Law_1385 rfl (fun _ => rfl) ?_
    refine Rg.step 1388 F_Law_1387 rfl (fun _ => rfl) ?_
    refine Rg.ifeq 1393 1391 F_Law_1388 rfl rfl (fun _ => ?_) (fun z => absurd ((lg_cmp_eq _ _).mpr rfl) z)
    refine Rg.step 1459 F_Law_1393 rfl (fun _ => rfl) ?_
    exact Rg.weak hg (by simp [lput1, lput2, Value.category, fi0, fi1, fi2, fi3] <;> first | rfl | exact ⟨rfl, rfl⟩) (by simp [lput1, lput2, Value.category, fi0, fi1, fi2, fi3] <;> first | rfl | exact ⟨rfl, rfl⟩)
theorem lwc_holds (hs : s0 = .inl (.int, aI N sc)) (hN : N ≤ 2560) (hi : 0 ≤ i ∧ i + 4 < N) (hb : ∀ z, -2147483648 ≤ sc z ∧ sc z < 2147483648) (h : INV s0 n mem) : ∃ mem2, INV s0 (n + 1) mem2 ∧ ∀ o mem', Rg false 31 m_Law n0 1459 [(4, .int (iI i)), (0, .ref 0), (1, .ref 2), (2, .ref 168), (3, .ref 218)] [] mem2 o mem' → Rg false 31 m_Law n0 1396 [(4, .int (iI i)), (0, .ref 0), (1, .ref 2), (2, .ref 168), (3, .ref 218)] [] mem o mem' := by
  have h0 := h.k0
  rw [hs] at h0
  obtain ⟨k, o1, mem1, mem2, hk, hc1, h01, ⟨fs1, h168⟩, hc2, hc3, hI, hQ⟩ := p_holds (hb (i + 1)) h
  obtain ⟨b, rfl, hb1, hq⟩ := hQ
  rw [hs] at h01
  obtain ⟨fs2, h1682⟩ := hI.k168
  refine ⟨mem2, hI, fun o mem' hg => ?_⟩
  refine Rg.step 1397 F_Law_1396 rfl (fun _ => rfl) ?_
  refine Rg.step 1398 F_Law_1397 rfl (fun _ => rfl) ?_
  refine Rg.step 1400 F_Law_1398 rfl (fun _ => rfl) ?_
  refine Rg.step 1401 F_Law_1400 rfl (fun _ => rfl) ?_
  refine Rg.addI 1402 F_Law_1401 rfl ?_
  refine Rg.sld 1403 F_Law_1402 rfl h0 (by omega) hN ?_
  refine Rg.step 1404 F_Law_1403 rfl (fun _ => rfl) ?_
  refine Rg.call 1407 F_Law_1404 rfl (one_S (by decide +kernel) rM_0_189 (by decide) (by simp) rfl rfl) (Nat.le_of_ble_eq_true rfl) hc1 ?_
  refine Rg.step 1409 F_Law_1407 rfl (fun _ => rfl) ?_
  refine Rg.step 1410 F_Law_1409 rfl (fun _ => rfl) ?_
  refine Rg.step 1411 F_Law_1410 rfl (fun _ => rfl) ?_
  refine Rg.step 1413 F_Law_1411 rfl (fun _ => rfl) ?_
  refine Rg.step 1414 F_Law_1413 rfl (fun _ => rfl) ?_
  refine Rg.addI 1415 F_Law_1414 rfl ?_
  refine Rg.sld 1416 F_Law_1415 rfl h01 (by omega) hN ?_
  refine Rg.call 1419 F_Law_1416 rfl (one_V rM_0_191 (by decide) (by simp) rfl rfl h168 rfl) (Nat.le_of_ble_eq_true rfl) hc2 ?_
  refine Rg.step 1421 F_Law_1419 rfl (fun _ => rfl) ?_
  refine Rg.step 1422 F_Law_1421 rfl (fun _ => rfl) ?_
  refine Rg.call 1425 F_Law_1422 rfl (one_V rM_0_101 (by decide) (by simp) rfl rfl h1682 rfl) (Nat.le_of_ble_eq_true rfl) hc3 ?_
  refine Rg.step 1427 F_Law_1425 rfl (fun _ => rfl) ?_
  refine Rg.iceq 1432 1430 F_Law_1427 rfl rfl (fun _ => ?_) (fun z => absurd rfl z)
  refine Rg.step 1434 F_Law_1432 rfl (fun _ => rfl) ?_
  refine Rg.ifneI 1456 1437 F_Law_1434 rfl rfl (by omega) (fun _ => ?_) (fun h0 => ?_)
  · skip
    refine Rg.step 1459 F_Law_1456 rfl (fun _ => rfl) ?_
    exact Rg.weak hg (by simp [lput1, lput2, Value.category, fi0, fi1, fi2, fi3] <;> first | rfl | exact ⟨rfl, rfl⟩) (by simp [lput1, lput2, Value.category, fi0, fi1, fi2, fi3] <;> first | rfl | exact ⟨rfl, rfl⟩)
  · skip
    refine Rg.step 1438 F_Law_1437 rfl (fun _ => rfl) ?_
    refine Rg.step 1439 F_Law_1438 rfl (fun _ => rfl) ?_
    refine Rg.lald 1440 F_Law_1439 rfl (hq h0) (show ix (iI 0) = some 0 by decide) rfl ?_
    refine Rg.step 1442 F_Law_1440 rfl (fun _ => rfl) ?_
    rcases hb1 with z | z <;> subst z
    · refine Rg.ifeq 1449 1445 F_Law_1442 rfl rfl (fun _ => ?_) (fun z => absurd rfl z)
      refine Rg.step 1450 F_Law_1449 rfl (fun _ => rfl) ?_
      refine Rg.step 1451 F_Law_1450 rfl (fun _ => rfl) ?_
      refine Rg.ifeq 1456 1454 F_Law_1451 rfl rfl (fun _ => ?_) (fun z => absurd ((lg_cmp_eq _ _).mpr rfl) z)
      refine Rg.step 1459 F_Law_1456 rfl (fun _ => rfl) ?_
      exact Rg.weak hg (by simp [lput1, lput2, Value.category, fi0, fi1, fi2, fi3] <;> first | rfl | exact ⟨rfl, rfl⟩) (by simp [lput1, lput2, Value.category, fi0, fi1, fi2, fi3] <;> first | rfl | exact ⟨rfl, rfl⟩)
    · refine Rg.ifeq 1449 1445 F_Law_1442 rfl rfl (fun z => absurd z (by decide)) (fun _ => ?_)
      refine Rg.step 1446 F_Law_1445 rfl (fun _ => rfl) ?_
      refine Rg.step 1450 F_Law_1446 rfl (fun _ => rfl) ?_
      refine Rg.step 1451 F_Law_1450 rfl (fun _ => rfl) ?_
      refine Rg.ifeq 1456 1454 F_Law_1451 rfl rfl (fun _ => ?_) (fun z => absurd ((lg_cmp_eq _ _).mpr rfl) z)
      refine Rg.step 1459 F_Law_1456 rfl (fun _ => rfl) ?_
      exact Rg.weak hg (by simp [lput1, lput2, Value.category, fi0, fi1, fi2, fi3] <;> first | rfl | exact ⟨rfl, rfl⟩) (by simp [lput1, lput2, Value.category, fi0, fi1, fi2, fi3] <;> first | rfl | exact ⟨rfl, rfl⟩)
theorem INV.up (h : INV s0 n mem) : INV s0 (n + 1) mem := by
  refine h _ ?_
  clear h
  intro handN handD gT gF alE alM epN epD plM plA plBN plBD plLN plLD plR vsF vsN vsD juM juP juTN juTD juO scN scD noF noN noD neF neN neD arP arB arM arU arF arR arL arT arA arS leN leD grN grD arH arLU arGU shN shD stF stN stD code amountN amountD momentN momentD epsilonN epsilonD firstFacts firstN firstD wishes wants wantN wantD actions needs needTime needOf needHow needN needD changes changeTime changeOf changeHow changeN changeD lastOf lastN lastD steps stepAction startN startD lengthN lengthD rows row tried triedAction triedRows triedRow times unit facts numN numD oldFacts oldN oldD point judged fault faultPoint toldFacts toldN toldD outN outD pointN pointD gone now leastN leastD greatestN greatestD events ab post x he rH rA rG rM rE rEg rT rN hw rS rR rB rP rU rL rX rO rQ rK rI rV rY hO hD hL hn
  subst he
  exact INV.of rH rA rG rM rE rEg rT rN hw rS rR rB rP rU rL rX rO rQ rK rI rV rY hO hD hL (by omega)
theorem law_step (hs : s0 = .inl (.int, aI N sc)) (hN : N ≤ 2560) (hi : 0 ≤ i ∧ i + 4 < N) (hb : ∀ z, -2147483648 ≤ sc z ∧ sc z < 2147483648) (h : INV s0 n mem) : ∃ mem2, INV s0 (n + 1) mem2 ∧ ∀ o mem', Rg false 31 m_Law n0 1459 [(4, .int (iI i)), (0, .ref 0), (1, .ref 2), (2, .ref 168), (3, .ref 218)] [] mem2 o mem' → Rg false 31 m_Law n0 32 [(4, .int (iI i)), (0, .ref 0), (1, .ref 2), (2, .ref 168), (3, .ref 218)] [] mem o mem' := by
  have h0 := h.k0
  rw [hs] at h0
  have key : ∀ (v : Int32) pc9 mem2, v = iI (sc i) &&& (Int8.ofInt 31).toInt32 → (∀ o mem', Rg false 31 m_Law n0 1459 [(4, .int (iI i)), (0, .ref 0), (1, .ref 2), (2, .ref 168), (3, .ref 218)] [] mem2 o mem' → Rg false 31 m_Law n0 pc9 [(4, .int (iI i)), (0, .ref 0), (1, .ref 2), (2, .ref 168), (3, .ref 218)] [] mem o mem') → (∀ o mem', Rg false 31 m_Law n0 pc9 [(4, .int (iI i)), (0, .ref 0), (1, .ref 2), (2, .ref 168), (3, .ref 218)] [] mem o mem' → Rg false 31 m_Law n0 39 [(4, .int (iI i)), (0, .ref 0), (1, .ref 2), (2, .ref 168), (3, .ref 218)] [.int v] mem o mem') → ∀ o mem', Rg false 31 m_Law n0 1459 [(4, .int (iI i)), (0, .ref 0), (1, .ref 2), (2, .ref 168), (3, .ref 218)] [] mem2 o mem' → Rg false 31 m_Law n0 32 [(4, .int (iI i)), (0, .ref 0), (1, .ref 2), (2, .ref 168), (3, .ref 218)] [] mem o mem' := by
    intro v pc9 mem2 hv hk hj o mem' hg
    refine Rg.step 33 F_Law_32 rfl (fun _ => rfl) ?_
    refine Rg.step 35 F_Law_33 rfl (fun _ => rfl) ?_
    refine Rg.sld 36 F_Law_35 rfl h0 (by omega) hN ?_
    refine Rg.step 38 F_Law_36 rfl (fun _ => rfl) ?_
    refine Rg.step 39 F_Law_38 rfl (fun _ => rfl) ?_
    rw [hv] at hj
    exact hj o mem' (hk o mem' hg)
  obtain ⟨v, hv⟩ : ∃ v : Int32, v = iI (sc i) &&& (Int8.ofInt 31).toInt32 := ⟨_, rfl⟩
  by_cases hd : v.toInt < 0 ∨ 25 < v.toInt
  · exact ⟨mem, h.up, key v 1459 mem hv (fun o mem' hg => hg) (fun o mem' hg => Rg.tswD 1459 F_Law_39 rfl hd hg)⟩
  · rcases (show v.toInt = 0 ∨ v.toInt = 1 ∨ v.toInt = 2 ∨ v.toInt = 3 ∨ v.toInt = 4 ∨ v.toInt = 5 ∨ v.toInt = 6 ∨ v.toInt = 7 ∨ v.toInt = 8 ∨ v.toInt = 9 ∨ v.toInt = 10 ∨ v.toInt = 11 ∨ v.toInt = 12 ∨ v.toInt = 13 ∨ v.toInt = 14 ∨ v.toInt = 15 ∨ v.toInt = 16 ∨ v.toInt = 17 ∨ v.toInt = 18 ∨ v.toInt = 19 ∨ v.toInt = 20 ∨ v.toInt = 21 ∨ v.toInt = 22 ∨ v.toInt = 23 ∨ v.toInt = 24 ∨ v.toInt = 25 by omega) with hj | hj | hj | hj | hj | hj | hj | hj | hj | hj | hj | hj | hj | hj | hj | hj | hj | hj | hj | hj | hj | hj | hj | hj | hj | hj
    · obtain ⟨mem2, hI, hk⟩ := lwc_amount (n0 := n0) hs hN hi hb h
      exact ⟨mem2, hI, key v 156 mem2 hv hk (fun o mem' hg => Rg.tsw 156 0 F_Law_39 hj (by decide) rfl rfl hg)⟩
    · obtain ⟨mem2, hI, hk⟩ := lwc_moment (n0 := n0) hs hN hi hb h
      exact ⟨mem2, hI, key v 204 mem2 hv hk (fun o mem' hg => Rg.tsw 204 1 F_Law_39 hj (by decide) rfl rfl hg)⟩
    · obtain ⟨mem2, hI, hk⟩ := lwc_epsilon (n0 := n0) hs hN hi hb h
      exact ⟨mem2, hI, key v 252 mem2 hv hk (fun o mem' hg => Rg.tsw 252 2 F_Law_39 hj (by decide) rfl rfl hg)⟩
    · obtain ⟨mem2, hI, hk⟩ := lwc_fact (n0 := n0) hs hN hi hb h
      exact ⟨mem2, hI, key v 276 mem2 hv hk (fun o mem' hg => Rg.tsw 276 3 F_Law_39 hj (by decide) rfl rfl hg)⟩
    · obtain ⟨mem2, hI, hk⟩ := lwc_number (n0 := n0) hs hN hi hb h
      exact ⟨mem2, hI, key v 340 mem2 hv hk (fun o mem' hg => Rg.tsw 340 4 F_Law_39 hj (by decide) rfl rfl hg)⟩
    · obtain ⟨mem2, hI, hk⟩ := lwc_wish (n0 := n0) hs hN hi hb h
      exact ⟨mem2, hI, key v 376 mem2 hv hk (fun o mem' hg => Rg.tsw 376 5 F_Law_39 hj (by decide) rfl rfl hg)⟩
    · obtain ⟨mem2, hI, hk⟩ := lwc_want (n0 := n0) hs hN hi hb h
      exact ⟨mem2, hI, key v 424 mem2 hv hk (fun o mem' hg => Rg.tsw 424 6 F_Law_39 hj (by decide) rfl rfl hg)⟩
    · obtain ⟨mem2, hI, hk⟩ := lwc_action (n0 := n0) hs hN hi hb h
      exact ⟨mem2, hI, key v 472 mem2 hv hk (fun o mem' hg => Rg.tsw 472 7 F_Law_39 hj (by decide) rfl rfl hg)⟩
    · obtain ⟨mem2, hI, hk⟩ := lwc_need (n0 := n0) hs hN hi hb h
      exact ⟨mem2, hI, key v 516 mem2 hv hk (fun o mem' hg => Rg.tsw 516 8 F_Law_39 hj (by decide) rfl rfl hg)⟩
    · obtain ⟨mem2, hI, hk⟩ := lwc_compare (n0 := n0) hs hN hi hb h
      exact ⟨mem2, hI, key v 604 mem2 hv hk (fun o mem' hg => Rg.tsw 604 9 F_Law_39 hj (by decide) rfl rfl hg)⟩
    · obtain ⟨mem2, hI, hk⟩ := lwc_make (n0 := n0) hs hN hi hb h
      exact ⟨mem2, hI, key v 676 mem2 hv hk (fun o mem' hg => Rg.tsw 676 10 F_Law_39 hj (by decide) rfl rfl hg)⟩
    · obtain ⟨mem2, hI, hk⟩ := lwc_change (n0 := n0) hs hN hi hb h
      exact ⟨mem2, hI, key v 764 mem2 hv hk (fun o mem' hg => Rg.tsw 764 11 F_Law_39 hj (by decide) rfl rfl hg)⟩
    · obtain ⟨mem2, hI, hk⟩ := lwc_last (n0 := n0) hs hN hi hb h
      exact ⟨mem2, hI, key v 836 mem2 hv hk (fun o mem' hg => Rg.tsw 836 12 F_Law_39 hj (by decide) rfl rfl hg)⟩
    · obtain ⟨mem2, hI, hk⟩ := lwc_step (n0 := n0) hs hN hi hb h
      exact ⟨mem2, hI, key v 896 mem2 hv hk (fun o mem' hg => Rg.tsw 896 13 F_Law_39 hj (by decide) rfl rfl hg)⟩
    · obtain ⟨mem2, hI, hk⟩ := lwc_clear (n0 := n0) hs hN hi hb h
      exact ⟨mem2, hI, key v 952 mem2 hv hk (fun o mem' hg => Rg.tsw 952 14 F_Law_39 hj (by decide) rfl rfl hg)⟩
    · obtain ⟨mem2, hI, hk⟩ := lwc_judge (n0 := n0) hs hN hi hb h
      exact ⟨mem2, hI, key v 963 mem2 hv hk (fun o mem' hg => Rg.tsw 963 15 F_Law_39 hj (by decide) rfl rfl hg)⟩
    · obtain ⟨mem2, hI, hk⟩ := lwc_push (n0 := n0) hs hN hi hb h
      exact ⟨mem2, hI, key v 976 mem2 hv hk (fun o mem' hg => Rg.tsw 976 16 F_Law_39 hj (by decide) rfl rfl hg)⟩
    · obtain ⟨mem2, hI, hk⟩ := lwc_pop (n0 := n0) hs hN hi hb h
      exact ⟨mem2, hI, key v 1012 mem2 hv hk (fun o mem' hg => Rg.tsw 1012 17 F_Law_39 hj (by decide) rfl rfl hg)⟩
    · obtain ⟨mem2, hI, hk⟩ := lwc_arrange (n0 := n0) hs hN hi hb h
      exact ⟨mem2, hI, key v 1025 mem2 hv hk (fun o mem' hg => Rg.tsw 1025 18 F_Law_39 hj (by decide) rfl rfl hg)⟩
    · obtain ⟨mem2, hI, hk⟩ := lwc_seek (n0 := n0) hs hN hi hb h
      exact ⟨mem2, hI, key v 1069 mem2 hv hk (fun o mem' hg => Rg.tsw 1069 19 F_Law_39 hj (by decide) rfl rfl hg)⟩
    · obtain ⟨mem2, hI, hk⟩ := lwc_count (n0 := n0) hs hN hi hb h
      exact ⟨mem2, hI, key v 1125 mem2 hv hk (fun o mem' hg => Rg.tsw 1125 20 F_Law_39 hj (by decide) rfl rfl hg)⟩
    · obtain ⟨mem2, hI, hk⟩ := lwc_done (n0 := n0) hs hN hi hb h
      exact ⟨mem2, hI, key v 1181 mem2 hv hk (fun o mem' hg => Rg.tsw 1181 21 F_Law_39 hj (by decide) rfl rfl hg)⟩
    · obtain ⟨mem2, hI, hk⟩ := lwc_at (n0 := n0) hs hN hi hb h
      exact ⟨mem2, hI, key v 1237 mem2 hv hk (fun o mem' hg => Rg.tsw 1237 22 F_Law_39 hj (by decide) rfl rfl hg)⟩
    · obtain ⟨mem2, hI, hk⟩ := lwc_above (n0 := n0) hs hN hi hb h
      exact ⟨mem2, hI, key v 1262 mem2 hv hk (fun o mem' hg => Rg.tsw 1262 23 F_Law_39 hj (by decide) rfl rfl hg)⟩
    · obtain ⟨mem2, hI, hk⟩ := lwc_below (n0 := n0) hs hN hi hb h
      exact ⟨mem2, hI, key v 1329 mem2 hv hk (fun o mem' hg => Rg.tsw 1329 24 F_Law_39 hj (by decide) rfl rfl hg)⟩
    · obtain ⟨mem2, hI, hk⟩ := lwc_holds (n0 := n0) hs hN hi hb h
      exact ⟨mem2, hI, key v 1396 mem2 hv hk (fun o mem' hg => Rg.tsw 1396 25 F_Law_39 hj (by decide) rfl rfl hg)⟩
end R9A
