/-! the law's calls, one by one (wip/gen/gen_law96.py) -/
def QL (v : Option Value) (_ : mm) : Prop := v = some (vI 1)
abbrev lwL (i : Int) : List (Option Value) := [some (.ref 999), some (.ref 0), some (.ref 51), some (vI i)]
def SCR (L : Int) (X : Nat → Int32) (μ : mm) : Prop := μ.1 998 0 = iI L ∧ μ.1 999 = X
theorem G_keep {y pc : Nat} {lv : List (Option Value)} {st : List Value} {μ : mm} {Q : Option Value → mm → Prop} (h : G y pc lv st μ Q) : G y pc lv st μ (fun v μ' => Q v μ' ∧ ∀ k, 68 ≤ k → μ'.1 k = μ.1 k) := by
  obtain ⟨n, v, m2, h1, h2⟩ := h
  exact ⟨n, v, m2, h1, h2, fun k hk => run_keep n y pc lv st μ v m2 h1 k hk⟩
theorem SCR.keep {L : Int} {X : Nat → Int32} {μ μ' : mm} (h : SCR L X μ) (hk : ∀ k, 68 ≤ k → μ'.1 k = μ.1 k) : SCR L X μ' := ⟨by rw [hk 998 (by decide)]; exact h.1, by rw [hk 999 (by decide)]; exact h.2⟩
section LW
variable {L : Int} {X : Nat → Int32} {μ : mm} {Q : Option Value → mm → Prop} {i : Int}
def aX (X : Nat → Int32) (j : Int) : Int := (X j.toNat).toInt
theorem aX_sb (X : Nat → Int32) (j : Int) : SB (aX X j) := SB_of _
theorem lw_scr {pc : Nat} {lv : List (Option Value)} {r : List Value} {j : Int} (hi : ins 197 pc = some .iaload) (hs : SCR L X μ) (hL : L ≤ 2560) (hj : 0 ≤ j ∧ j < L) : G 197 pc lv (vI j :: .ref 999 :: r) μ Q = G 197 (pc + 1) lv (vI (aX X j) :: r) μ Q := by
  rw [g_scr hi rfl, hs.1, iI_cl (z := L) ⟨by omega, by omega⟩, iI_cl (z := j) ⟨by omega, by omega⟩, if_neg (fun z => by
    rcases z with z | z
    · rw [iI_0, iI_lt ⟨by omega, by omega⟩ (by decide)] at z; omega
    · omega), hs.2]
  unfold aX
  rw [vI_of]
theorem lw_arg {pc : Nat} {k : Int} {st : List Value} (h0 : ins 197 pc = some (.aload_n 0)) (h1 : ins 197 (pc + 1) = some (.iload_n 3)) (h2 : ins 197 (pc + 2) = some (.iconst k)) (h3 : ins 197 (pc + 3) = some .iadd) (h4 : ins 197 (pc + 4) = some .iaload) (hs : SCR L X μ) (hL : L ≤ 2560) (hj : 0 ≤ i + k ∧ i + k < L) : G 197 pc (lwL i) st μ Q = G 197 (pc + 5) (lwL i) (vI (aX X (i + k)) :: st) μ Q := by
  refine (g_aload_n h0 rfl rfl).trans ?_
  refine (g_iload_n h1 rfl).trans ?_
  refine (j_iconst h2).trans ?_
  refine (j_iadd h3).trans ?_
  exact lw_scr h4 hs hL hj
end LW
section LC
variable {L : Int} {X : Nat → Int32} {ρ : rm} {τ : Int64} {i : Int}
set_option maxRecDepth 10000 in
theorem law_0 (hR : RR ρ) (hs : SCR L X (toM ρ τ)) (hL : L ≤ 2560) (hi : 0 ≤ i ∧ i + 5 ≤ L) (IH : ∀ ρ2 τ2, RR ρ2 → SCR L X (toM ρ2 τ2) → G 197 1042 (lwL i) [] (toM ρ2 τ2) QL) : G 197 176 (lwL i) [] (toM ρ τ) QL := by
  refine Eq.mpr (g_aload_n d197_176 rfl rfl) ?_
  refine Eq.mpr (lw_arg (i := i) d197_177 d197_178 d197_179 d197_180 d197_181 hs hL (by omega)) ?_
  refine Eq.mpr (g_i2l d197_182) ?_
  refine Eq.mpr (j_bipush d197_183 (by decide)) ?_
  refine Eq.mpr (g_lshl d197_185) ?_
  refine Eq.mpr (lw_arg (i := i) d197_186 d197_187 d197_188 d197_189 d197_190 hs hL (by omega)) ?_
  refine Eq.mpr (g_i2l d197_191) ?_
  refine Eq.mpr (g_ldc2_w (x := 4294967295) d197_192 cs11_13) ?_
  refine Eq.mpr (g_land d197_195) ?_
  refine Eq.mpr (g_lor d197_196) ?_
  refine Eq.mpr (lw_arg (i := i) d197_197 d197_198 d197_199 d197_200 d197_201 hs hL (by omega)) ?_
  refine Eq.mpr (g_cV d197_202 k11_15 rfl rfl rfl) ?_
  have ag : Agree 81 123 [some (.long (((iI (aX X (i + 1))).toInt64 <<< ((iI 32).toInt64 &&& 63)) ||| ((iI (aX X (i + 2))).toInt64 &&& 4294967295))), none, some (vI (aX X (i + 3)))] := ag_write _ _ (aX_sb X _)
  refine G_imp (G_keep (ag ρ τ hR)) ?_
  rintro v μ ⟨⟨r, hr, hv, hg⟩, hk⟩
  subst hv
  have hs2 := hs.keep hk
  show G 197 205 (lwL i) [vI r] μ QL
  refine Eq.mpr (g_aload_n d197_205 rfl rfl) ?_
  refine Eq.mpr (lw_arg (i := i) d197_206 d197_207 d197_208 d197_209 d197_210 hs2 hL (by omega)) ?_
  refine Eq.mpr (g_i2l d197_211) ?_
  refine Eq.mpr (j_bipush d197_212 (by decide)) ?_
  refine Eq.mpr (g_lshl d197_214) ?_
  refine Eq.mpr (lw_arg (i := i) d197_215 d197_216 d197_217 d197_218 d197_219 hs2 hL (by omega)) ?_
  refine Eq.mpr (g_i2l d197_220) ?_
  refine Eq.mpr (g_ldc2_w (x := 4294967295) d197_221 cs11_13) ?_
  refine Eq.mpr (g_land d197_224) ?_
  refine Eq.mpr (g_lor d197_225) ?_
  refine Eq.mpr (lw_arg (i := i) d197_226 d197_227 d197_228 d197_229 d197_230 hs2 hL (by omega)) ?_
  refine Eq.mpr (g_cV d197_231 k11_19 rfl rfl rfl) ?_
  refine G_imp (G_keep hg) ?_
  rintro v μ' ⟨⟨hv, ρ2, τ2, hm, hR2⟩, hk2⟩
  subst hv
  show G 197 234 (lwL i) [vI r, vI r] μ' QL
  refine Eq.mpr (g_icmp_eq (tgt := 1042) d197_234 (by decide)) ?_
  rw [if_pos rfl, hm]
  exact IH ρ2 τ2 hR2 (by rw [← hm]; exact hs2.keep hk2)
set_option maxRecDepth 10000 in
theorem law_1 (hR : RR ρ) (hs : SCR L X (toM ρ τ)) (hL : L ≤ 2560) (hi : 0 ≤ i ∧ i + 5 ≤ L) (IH : ∀ ρ2 τ2, RR ρ2 → SCR L X (toM ρ2 τ2) → G 197 1042 (lwL i) [] (toM ρ2 τ2) QL) : G 197 239 (lwL i) [] (toM ρ τ) QL := by
  refine Eq.mpr (g_aload_n d197_239 rfl rfl) ?_
  refine Eq.mpr (g_cV d197_240 k11_20 rfl rfl rfl) ?_
  have ag : Agree 82 124 [] := ag_erase
  refine G_imp (G_keep (ag ρ τ hR)) ?_
  rintro v μ ⟨⟨r, hr, hv, hg⟩, hk⟩
  subst hv
  have hs2 := hs.keep hk
  show G 197 243 (lwL i) [vI r] μ QL
  refine Eq.mpr (g_aload_n d197_243 rfl rfl) ?_
  refine Eq.mpr (g_cV d197_244 k11_24 rfl rfl rfl) ?_
  refine G_imp (G_keep hg) ?_
  rintro v μ' ⟨⟨hv, ρ2, τ2, hm, hR2⟩, hk2⟩
  subst hv
  show G 197 247 (lwL i) [vI r, vI r] μ' QL
  refine Eq.mpr (g_icmp_eq (tgt := 1042) d197_247 (by decide)) ?_
  rw [if_pos rfl, hm]
  exact IH ρ2 τ2 hR2 (by rw [← hm]; exact hs2.keep hk2)
set_option maxRecDepth 10000 in
theorem law_2 (hR : RR ρ) (hs : SCR L X (toM ρ τ)) (hL : L ≤ 2560) (hi : 0 ≤ i ∧ i + 5 ≤ L) (IH : ∀ ρ2 τ2, RR ρ2 → SCR L X (toM ρ2 τ2) → G 197 1042 (lwL i) [] (toM ρ2 τ2) QL) : G 197 252 (lwL i) [] (toM ρ τ) QL := by
  refine Eq.mpr (g_aload_n d197_252 rfl rfl) ?_
  refine Eq.mpr (g_cV d197_253 k11_25 rfl rfl rfl) ?_
  have ag : Agree 83 134 [] := ag_fault
  refine G_imp (G_keep (ag ρ τ hR)) ?_
  rintro v μ ⟨⟨r, hr, hv, hg⟩, hk⟩
  subst hv
  have hs2 := hs.keep hk
  show G 197 256 (lwL i) [vI r] μ QL
  refine Eq.mpr (g_aload_n d197_256 rfl rfl) ?_
  refine Eq.mpr (g_cV d197_257 k11_28 rfl rfl rfl) ?_
  refine G_imp (G_keep hg) ?_
  rintro v μ' ⟨⟨hv, ρ2, τ2, hm, hR2⟩, hk2⟩
  subst hv
  show G 197 260 (lwL i) [vI r, vI r] μ' QL
  refine Eq.mpr (g_icmp_eq (tgt := 1042) d197_260 (by decide)) ?_
  rw [if_pos rfl, hm]
  exact IH ρ2 τ2 hR2 (by rw [← hm]; exact hs2.keep hk2)
set_option maxRecDepth 10000 in
theorem law_3 (hR : RR ρ) (hs : SCR L X (toM ρ τ)) (hL : L ≤ 2560) (hi : 0 ≤ i ∧ i + 5 ≤ L) (IH : ∀ ρ2 τ2, RR ρ2 → SCR L X (toM ρ2 τ2) → G 197 1042 (lwL i) [] (toM ρ2 τ2) QL) : G 197 265 (lwL i) [] (toM ρ τ) QL := by
  refine Eq.mpr (g_aload_n d197_265 rfl rfl) ?_
  refine Eq.mpr (g_cV d197_266 k11_29 rfl rfl rfl) ?_
  have ag : Agree 84 136 [] := ag_street
  refine G_imp (G_keep (ag ρ τ hR)) ?_
  rintro v μ ⟨⟨r, hr, hv, hg⟩, hk⟩
  subst hv
  have hs2 := hs.keep hk
  show G 197 269 (lwL i) [vI r] μ QL
  refine Eq.mpr (g_aload_n d197_269 rfl rfl) ?_
  refine Eq.mpr (g_cV d197_270 k11_32 rfl rfl rfl) ?_
  refine G_imp (G_keep hg) ?_
  rintro v μ' ⟨⟨hv, ρ2, τ2, hm, hR2⟩, hk2⟩
  subst hv
  show G 197 273 (lwL i) [vI r, vI r] μ' QL
  refine Eq.mpr (g_icmp_eq (tgt := 1042) d197_273 (by decide)) ?_
  rw [if_pos rfl, hm]
  exact IH ρ2 τ2 hR2 (by rw [← hm]; exact hs2.keep hk2)
set_option maxRecDepth 10000 in
theorem law_4 (hR : RR ρ) (hs : SCR L X (toM ρ τ)) (hL : L ≤ 2560) (hi : 0 ≤ i ∧ i + 5 ≤ L) (IH : ∀ ρ2 τ2, RR ρ2 → SCR L X (toM ρ2 τ2) → G 197 1042 (lwL i) [] (toM ρ2 τ2) QL) : G 197 278 (lwL i) [] (toM ρ τ) QL := by
  refine Eq.mpr (g_aload_n d197_278 rfl rfl) ?_
  refine Eq.mpr (lw_arg (i := i) d197_279 d197_280 d197_281 d197_282 d197_283 hs hL (by omega)) ?_
  refine Eq.mpr (g_cV d197_284 k11_33 rfl rfl rfl) ?_
  have ag : Agree 85 138 [some (vI (aX X (i + 1)))] := ag_off _ (aX_sb X _)
  refine G_imp (G_keep (ag ρ τ hR)) ?_
  rintro v μ ⟨⟨r, hr, hv, hg⟩, hk⟩
  subst hv
  have hs2 := hs.keep hk
  show G 197 287 (lwL i) [vI r] μ QL
  refine Eq.mpr (g_aload_n d197_287 rfl rfl) ?_
  refine Eq.mpr (lw_arg (i := i) d197_288 d197_289 d197_290 d197_291 d197_292 hs2 hL (by omega)) ?_
  refine Eq.mpr (g_cV d197_293 k11_37 rfl rfl rfl) ?_
  refine G_imp (G_keep hg) ?_
  rintro v μ' ⟨⟨hv, ρ2, τ2, hm, hR2⟩, hk2⟩
  subst hv
  show G 197 296 (lwL i) [vI r, vI r] μ' QL
  refine Eq.mpr (g_icmp_eq (tgt := 1042) d197_296 (by decide)) ?_
  rw [if_pos rfl, hm]
  exact IH ρ2 τ2 hR2 (by rw [← hm]; exact hs2.keep hk2)
set_option maxRecDepth 10000 in
theorem law_5 (hR : RR ρ) (hs : SCR L X (toM ρ τ)) (hL : L ≤ 2560) (hi : 0 ≤ i ∧ i + 5 ≤ L) (IH : ∀ ρ2 τ2, RR ρ2 → SCR L X (toM ρ2 τ2) → G 197 1042 (lwL i) [] (toM ρ2 τ2) QL) : G 197 301 (lwL i) [] (toM ρ τ) QL := by
  refine Eq.mpr (g_aload_n d197_301 rfl rfl) ?_
  refine Eq.mpr (lw_arg (i := i) d197_302 d197_303 d197_304 d197_305 d197_306 hs hL (by omega)) ?_
  refine Eq.mpr (lw_arg (i := i) d197_307 d197_308 d197_309 d197_310 d197_311 hs hL (by omega)) ?_
  refine Eq.mpr (g_cV d197_312 k11_38 rfl rfl rfl) ?_
  have ag : Agree 86 139 [some (vI (aX X (i + 1))), some (vI (aX X (i + 2)))] := ag_far _ _ (aX_sb X _) (aX_sb X _)
  refine G_imp (G_keep (ag ρ τ hR)) ?_
  rintro v μ ⟨⟨r, hr, hv, hg⟩, hk⟩
  subst hv
  have hs2 := hs.keep hk
  show G 197 315 (lwL i) [vI r] μ QL
  refine Eq.mpr (g_aload_n d197_315 rfl rfl) ?_
  refine Eq.mpr (lw_arg (i := i) d197_316 d197_317 d197_318 d197_319 d197_320 hs2 hL (by omega)) ?_
  refine Eq.mpr (lw_arg (i := i) d197_321 d197_322 d197_323 d197_324 d197_325 hs2 hL (by omega)) ?_
  refine Eq.mpr (g_cV d197_326 k11_42 rfl rfl rfl) ?_
  refine G_imp (G_keep hg) ?_
  rintro v μ' ⟨⟨hv, ρ2, τ2, hm, hR2⟩, hk2⟩
  subst hv
  show G 197 329 (lwL i) [vI r, vI r] μ' QL
  refine Eq.mpr (g_icmp_eq (tgt := 1042) d197_329 (by decide)) ?_
  rw [if_pos rfl, hm]
  exact IH ρ2 τ2 hR2 (by rw [← hm]; exact hs2.keep hk2)
set_option maxRecDepth 10000 in
theorem law_6 (hR : RR ρ) (hs : SCR L X (toM ρ τ)) (hL : L ≤ 2560) (hi : 0 ≤ i ∧ i + 5 ≤ L) (IH : ∀ ρ2 τ2, RR ρ2 → SCR L X (toM ρ2 τ2) → G 197 1042 (lwL i) [] (toM ρ2 τ2) QL) : G 197 334 (lwL i) [] (toM ρ τ) QL := by
  refine Eq.mpr (g_aload_n d197_334 rfl rfl) ?_
  refine Eq.mpr (lw_arg (i := i) d197_335 d197_336 d197_337 d197_338 d197_339 hs hL (by omega)) ?_
  refine Eq.mpr (lw_arg (i := i) d197_340 d197_341 d197_342 d197_343 d197_344 hs hL (by omega)) ?_
  refine Eq.mpr (lw_arg (i := i) d197_345 d197_346 d197_347 d197_348 d197_349 hs hL (by omega)) ?_
  refine Eq.mpr (g_cV d197_350 k11_43 rfl rfl rfl) ?_
  have ag : Agree 87 142 [some (vI (aX X (i + 1))), some (vI (aX X (i + 2))), some (vI (aX X (i + 3)))] := ag_shows _ _ _ (aX_sb X _) (aX_sb X _) (aX_sb X _)
  refine G_imp (G_keep (ag ρ τ hR)) ?_
  rintro v μ ⟨⟨r, hr, hv, hg⟩, hk⟩
  subst hv
  have hs2 := hs.keep hk
  show G 197 353 (lwL i) [vI r] μ QL
  refine Eq.mpr (g_aload_n d197_353 rfl rfl) ?_
  refine Eq.mpr (lw_arg (i := i) d197_354 d197_355 d197_356 d197_357 d197_358 hs2 hL (by omega)) ?_
  refine Eq.mpr (lw_arg (i := i) d197_359 d197_360 d197_361 d197_362 d197_363 hs2 hL (by omega)) ?_
  refine Eq.mpr (lw_arg (i := i) d197_364 d197_365 d197_366 d197_367 d197_368 hs2 hL (by omega)) ?_
  refine Eq.mpr (g_cV d197_369 k11_47 rfl rfl rfl) ?_
  refine G_imp (G_keep hg) ?_
  rintro v μ' ⟨⟨hv, ρ2, τ2, hm, hR2⟩, hk2⟩
  subst hv
  show G 197 372 (lwL i) [vI r, vI r] μ' QL
  refine Eq.mpr (g_icmp_eq (tgt := 1042) d197_372 (by decide)) ?_
  rw [if_pos rfl, hm]
  exact IH ρ2 τ2 hR2 (by rw [← hm]; exact hs2.keep hk2)
set_option maxRecDepth 10000 in
theorem law_7 (hR : RR ρ) (hs : SCR L X (toM ρ τ)) (hL : L ≤ 2560) (hi : 0 ≤ i ∧ i + 5 ≤ L) (IH : ∀ ρ2 τ2, RR ρ2 → SCR L X (toM ρ2 τ2) → G 197 1042 (lwL i) [] (toM ρ2 τ2) QL) : G 197 377 (lwL i) [] (toM ρ τ) QL := by
  refine Eq.mpr (g_aload_n d197_377 rfl rfl) ?_
  refine Eq.mpr (lw_arg (i := i) d197_378 d197_379 d197_380 d197_381 d197_382 hs hL (by omega)) ?_
  refine Eq.mpr (lw_arg (i := i) d197_383 d197_384 d197_385 d197_386 d197_387 hs hL (by omega)) ?_
  refine Eq.mpr (g_cV d197_388 k11_48 rfl rfl rfl) ?_
  have ag : Agree 88 144 [some (vI (aX X (i + 1))), some (vI (aX X (i + 2)))] := ag_byClocks _ _ (aX_sb X _) (aX_sb X _)
  refine G_imp (G_keep (ag ρ τ hR)) ?_
  rintro v μ ⟨⟨r, hr, hv, hg⟩, hk⟩
  subst hv
  have hs2 := hs.keep hk
  show G 197 391 (lwL i) [vI r] μ QL
  refine Eq.mpr (g_aload_n d197_391 rfl rfl) ?_
  refine Eq.mpr (lw_arg (i := i) d197_392 d197_393 d197_394 d197_395 d197_396 hs2 hL (by omega)) ?_
  refine Eq.mpr (lw_arg (i := i) d197_397 d197_398 d197_399 d197_400 d197_401 hs2 hL (by omega)) ?_
  refine Eq.mpr (g_cV d197_402 k11_51 rfl rfl rfl) ?_
  refine G_imp (G_keep hg) ?_
  rintro v μ' ⟨⟨hv, ρ2, τ2, hm, hR2⟩, hk2⟩
  subst hv
  show G 197 405 (lwL i) [vI r, vI r] μ' QL
  refine Eq.mpr (g_icmp_eq (tgt := 1042) d197_405 (by decide)) ?_
  rw [if_pos rfl, hm]
  exact IH ρ2 τ2 hR2 (by rw [← hm]; exact hs2.keep hk2)
set_option maxRecDepth 10000 in
theorem law_8 (hR : RR ρ) (hs : SCR L X (toM ρ τ)) (hL : L ≤ 2560) (hi : 0 ≤ i ∧ i + 5 ≤ L) (IH : ∀ ρ2 τ2, RR ρ2 → SCR L X (toM ρ2 τ2) → G 197 1042 (lwL i) [] (toM ρ2 τ2) QL) : G 197 410 (lwL i) [] (toM ρ τ) QL := by
  refine Eq.mpr (g_aload_n d197_410 rfl rfl) ?_
  refine Eq.mpr (lw_arg (i := i) d197_411 d197_412 d197_413 d197_414 d197_415 hs hL (by omega)) ?_
  refine Eq.mpr (g_cV d197_416 k11_52 rfl rfl rfl) ?_
  have ag : Agree 89 145 [some (vI (aX X (i + 1)))] := ag_gaining _ (aX_sb X _)
  refine G_imp (G_keep (ag ρ τ hR)) ?_
  rintro v μ ⟨⟨r, hr, hv, hg⟩, hk⟩
  subst hv
  have hs2 := hs.keep hk
  show G 197 419 (lwL i) [vI r] μ QL
  refine Eq.mpr (g_aload_n d197_419 rfl rfl) ?_
  refine Eq.mpr (lw_arg (i := i) d197_420 d197_421 d197_422 d197_423 d197_424 hs2 hL (by omega)) ?_
  refine Eq.mpr (g_cV d197_425 k11_55 rfl rfl rfl) ?_
  refine G_imp (G_keep hg) ?_
  rintro v μ' ⟨⟨hv, ρ2, τ2, hm, hR2⟩, hk2⟩
  subst hv
  show G 197 428 (lwL i) [vI r, vI r] μ' QL
  refine Eq.mpr (g_icmp_eq (tgt := 1042) d197_428 (by decide)) ?_
  rw [if_pos rfl, hm]
  exact IH ρ2 τ2 hR2 (by rw [← hm]; exact hs2.keep hk2)
set_option maxRecDepth 10000 in
theorem law_9 (hR : RR ρ) (hs : SCR L X (toM ρ τ)) (hL : L ≤ 2560) (hi : 0 ≤ i ∧ i + 5 ≤ L) (IH : ∀ ρ2 τ2, RR ρ2 → SCR L X (toM ρ2 τ2) → G 197 1042 (lwL i) [] (toM ρ2 τ2) QL) : G 197 433 (lwL i) [] (toM ρ τ) QL := by
  refine Eq.mpr (g_aload_n d197_433 rfl rfl) ?_
  refine Eq.mpr (lw_arg (i := i) d197_434 d197_435 d197_436 d197_437 d197_438 hs hL (by omega)) ?_
  refine Eq.mpr (lw_arg (i := i) d197_439 d197_440 d197_441 d197_442 d197_443 hs hL (by omega)) ?_
  refine Eq.mpr (g_cV d197_444 k11_56 rfl rfl rfl) ?_
  have ag : Agree 90 147 [some (vI (aX X (i + 1))), some (vI (aX X (i + 2)))] := ag_deed _ _ (aX_sb X _) (aX_sb X _)
  refine G_imp (G_keep (ag ρ τ hR)) ?_
  rintro v μ ⟨⟨r, hr, hv, hg⟩, hk⟩
  subst hv
  have hs2 := hs.keep hk
  show G 197 447 (lwL i) [vI r] μ QL
  refine Eq.mpr (g_aload_n d197_447 rfl rfl) ?_
  refine Eq.mpr (lw_arg (i := i) d197_448 d197_449 d197_450 d197_451 d197_452 hs2 hL (by omega)) ?_
  refine Eq.mpr (lw_arg (i := i) d197_453 d197_454 d197_455 d197_456 d197_457 hs2 hL (by omega)) ?_
  refine Eq.mpr (g_cV d197_458 k11_59 rfl rfl rfl) ?_
  refine G_imp (G_keep hg) ?_
  rintro v μ' ⟨⟨hv, ρ2, τ2, hm, hR2⟩, hk2⟩
  subst hv
  show G 197 461 (lwL i) [vI r, vI r] μ' QL
  refine Eq.mpr (g_icmp_eq (tgt := 1042) d197_461 (by decide)) ?_
  rw [if_pos rfl, hm]
  exact IH ρ2 τ2 hR2 (by rw [← hm]; exact hs2.keep hk2)
set_option maxRecDepth 10000 in
theorem law_10 (hR : RR ρ) (hs : SCR L X (toM ρ τ)) (hL : L ≤ 2560) (hi : 0 ≤ i ∧ i + 5 ≤ L) (IH : ∀ ρ2 τ2, RR ρ2 → SCR L X (toM ρ2 τ2) → G 197 1042 (lwL i) [] (toM ρ2 τ2) QL) : G 197 466 (lwL i) [] (toM ρ τ) QL := by
  refine Eq.mpr (g_aload_n d197_466 rfl rfl) ?_
  refine Eq.mpr (lw_arg (i := i) d197_467 d197_468 d197_469 d197_470 d197_471 hs hL (by omega)) ?_
  refine Eq.mpr (g_cV d197_472 k11_60 rfl rfl rfl) ?_
  have ag : Agree 91 148 [some (vI (aX X (i + 1)))] := ag_go _ (aX_sb X _)
  refine G_imp (G_keep (ag ρ τ hR)) ?_
  rintro v μ ⟨⟨r, hr, hv, hg⟩, hk⟩
  subst hv
  have hs2 := hs.keep hk
  show G 197 475 (lwL i) [vI r] μ QL
  refine Eq.mpr (g_aload_n d197_475 rfl rfl) ?_
  refine Eq.mpr (lw_arg (i := i) d197_476 d197_477 d197_478 d197_479 d197_480 hs2 hL (by omega)) ?_
  refine Eq.mpr (g_cV d197_481 k11_63 rfl rfl rfl) ?_
  refine G_imp (G_keep hg) ?_
  rintro v μ' ⟨⟨hv, ρ2, τ2, hm, hR2⟩, hk2⟩
  subst hv
  show G 197 484 (lwL i) [vI r, vI r] μ' QL
  refine Eq.mpr (g_icmp_eq (tgt := 1042) d197_484 (by decide)) ?_
  rw [if_pos rfl, hm]
  exact IH ρ2 τ2 hR2 (by rw [← hm]; exact hs2.keep hk2)
set_option maxRecDepth 10000 in
theorem law_11 (hR : RR ρ) (hs : SCR L X (toM ρ τ)) (hL : L ≤ 2560) (hi : 0 ≤ i ∧ i + 5 ≤ L) (IH : ∀ ρ2 τ2, RR ρ2 → SCR L X (toM ρ2 τ2) → G 197 1042 (lwL i) [] (toM ρ2 τ2) QL) : G 197 489 (lwL i) [] (toM ρ τ) QL := by
  refine Eq.mpr (g_aload_n d197_489 rfl rfl) ?_
  refine Eq.mpr (lw_arg (i := i) d197_490 d197_491 d197_492 d197_493 d197_494 hs hL (by omega)) ?_
  refine Eq.mpr (g_cV d197_495 k11_64 rfl rfl rfl) ?_
  have ag : Agree 92 149 [some (vI (aX X (i + 1)))] := ag_await _ (aX_sb X _)
  refine G_imp (G_keep (ag ρ τ hR)) ?_
  rintro v μ ⟨⟨r, hr, hv, hg⟩, hk⟩
  subst hv
  have hs2 := hs.keep hk
  show G 197 498 (lwL i) [vI r] μ QL
  refine Eq.mpr (g_aload_n d197_498 rfl rfl) ?_
  refine Eq.mpr (lw_arg (i := i) d197_499 d197_500 d197_501 d197_502 d197_503 hs2 hL (by omega)) ?_
  refine Eq.mpr (g_cV d197_504 k11_67 rfl rfl rfl) ?_
  refine G_imp (G_keep hg) ?_
  rintro v μ' ⟨⟨hv, ρ2, τ2, hm, hR2⟩, hk2⟩
  subst hv
  show G 197 507 (lwL i) [vI r, vI r] μ' QL
  refine Eq.mpr (g_icmp_eq (tgt := 1042) d197_507 (by decide)) ?_
  rw [if_pos rfl, hm]
  exact IH ρ2 τ2 hR2 (by rw [← hm]; exact hs2.keep hk2)
set_option maxRecDepth 10000 in
theorem law_12 (hR : RR ρ) (hs : SCR L X (toM ρ τ)) (hL : L ≤ 2560) (hi : 0 ≤ i ∧ i + 5 ≤ L) (IH : ∀ ρ2 τ2, RR ρ2 → SCR L X (toM ρ2 τ2) → G 197 1042 (lwL i) [] (toM ρ2 τ2) QL) : G 197 512 (lwL i) [] (toM ρ τ) QL := by
  refine Eq.mpr (g_aload_n d197_512 rfl rfl) ?_
  refine Eq.mpr (lw_arg (i := i) d197_513 d197_514 d197_515 d197_516 d197_517 hs hL (by omega)) ?_
  refine Eq.mpr (g_cV d197_518 k11_68 rfl rfl rfl) ?_
  have ag : Agree 93 150 [some (vI (aX X (i + 1)))] := ag_here _ (aX_sb X _)
  refine G_imp (G_keep (ag ρ τ hR)) ?_
  rintro v μ ⟨⟨r, hr, hv, hg⟩, hk⟩
  subst hv
  have hs2 := hs.keep hk
  show G 197 521 (lwL i) [vI r] μ QL
  refine Eq.mpr (g_aload_n d197_521 rfl rfl) ?_
  refine Eq.mpr (lw_arg (i := i) d197_522 d197_523 d197_524 d197_525 d197_526 hs2 hL (by omega)) ?_
  refine Eq.mpr (g_cV d197_527 k11_71 rfl rfl rfl) ?_
  refine G_imp (G_keep hg) ?_
  rintro v μ' ⟨⟨hv, ρ2, τ2, hm, hR2⟩, hk2⟩
  subst hv
  show G 197 530 (lwL i) [vI r, vI r] μ' QL
  refine Eq.mpr (g_icmp_eq (tgt := 1042) d197_530 (by decide)) ?_
  rw [if_pos rfl, hm]
  exact IH ρ2 τ2 hR2 (by rw [← hm]; exact hs2.keep hk2)
set_option maxRecDepth 10000 in
theorem law_13 (hR : RR ρ) (hs : SCR L X (toM ρ τ)) (hL : L ≤ 2560) (hi : 0 ≤ i ∧ i + 5 ≤ L) (IH : ∀ ρ2 τ2, RR ρ2 → SCR L X (toM ρ2 τ2) → G 197 1042 (lwL i) [] (toM ρ2 τ2) QL) : G 197 535 (lwL i) [] (toM ρ τ) QL := by
  refine Eq.mpr (g_aload_n d197_535 rfl rfl) ?_
  refine Eq.mpr (lw_arg (i := i) d197_536 d197_537 d197_538 d197_539 d197_540 hs hL (by omega)) ?_
  refine Eq.mpr (g_cV d197_541 k11_72 rfl rfl rfl) ?_
  have ag : Agree 94 151 [some (vI (aX X (i + 1)))] := ag_keep _ (aX_sb X _)
  refine G_imp (G_keep (ag ρ τ hR)) ?_
  rintro v μ ⟨⟨r, hr, hv, hg⟩, hk⟩
  subst hv
  have hs2 := hs.keep hk
  show G 197 544 (lwL i) [vI r] μ QL
  refine Eq.mpr (g_aload_n d197_544 rfl rfl) ?_
  refine Eq.mpr (lw_arg (i := i) d197_545 d197_546 d197_547 d197_548 d197_549 hs2 hL (by omega)) ?_
  refine Eq.mpr (g_cV d197_550 k11_75 rfl rfl rfl) ?_
  refine G_imp (G_keep hg) ?_
  rintro v μ' ⟨⟨hv, ρ2, τ2, hm, hR2⟩, hk2⟩
  subst hv
  show G 197 553 (lwL i) [vI r, vI r] μ' QL
  refine Eq.mpr (g_icmp_eq (tgt := 1042) d197_553 (by decide)) ?_
  rw [if_pos rfl, hm]
  exact IH ρ2 τ2 hR2 (by rw [← hm]; exact hs2.keep hk2)
set_option maxRecDepth 10000 in
theorem law_14 (hR : RR ρ) (hs : SCR L X (toM ρ τ)) (hL : L ≤ 2560) (hi : 0 ≤ i ∧ i + 5 ≤ L) (IH : ∀ ρ2 τ2, RR ρ2 → SCR L X (toM ρ2 τ2) → G 197 1042 (lwL i) [] (toM ρ2 τ2) QL) : G 197 558 (lwL i) [] (toM ρ τ) QL := by
  refine Eq.mpr (g_aload_n d197_558 rfl rfl) ?_
  refine Eq.mpr (lw_arg (i := i) d197_559 d197_560 d197_561 d197_562 d197_563 hs hL (by omega)) ?_
  refine Eq.mpr (g_cV d197_564 k11_76 rfl rfl rfl) ?_
  have ag : Agree 95 152 [some (vI (aX X (i + 1)))] := ag_back _ (aX_sb X _)
  refine G_imp (G_keep (ag ρ τ hR)) ?_
  rintro v μ ⟨⟨r, hr, hv, hg⟩, hk⟩
  subst hv
  have hs2 := hs.keep hk
  show G 197 567 (lwL i) [vI r] μ QL
  refine Eq.mpr (g_aload_n d197_567 rfl rfl) ?_
  refine Eq.mpr (lw_arg (i := i) d197_568 d197_569 d197_570 d197_571 d197_572 hs2 hL (by omega)) ?_
  refine Eq.mpr (g_cV d197_573 k11_79 rfl rfl rfl) ?_
  refine G_imp (G_keep hg) ?_
  rintro v μ' ⟨⟨hv, ρ2, τ2, hm, hR2⟩, hk2⟩
  subst hv
  show G 197 576 (lwL i) [vI r, vI r] μ' QL
  refine Eq.mpr (g_icmp_eq (tgt := 1042) d197_576 (by decide)) ?_
  rw [if_pos rfl, hm]
  exact IH ρ2 τ2 hR2 (by rw [← hm]; exact hs2.keep hk2)
set_option maxRecDepth 10000 in
theorem law_15 (hR : RR ρ) (hs : SCR L X (toM ρ τ)) (hL : L ≤ 2560) (hi : 0 ≤ i ∧ i + 5 ≤ L) (IH : ∀ ρ2 τ2, RR ρ2 → SCR L X (toM ρ2 τ2) → G 197 1042 (lwL i) [] (toM ρ2 τ2) QL) : G 197 581 (lwL i) [] (toM ρ τ) QL := by
  refine Eq.mpr (g_aload_n d197_581 rfl rfl) ?_
  refine Eq.mpr (lw_arg (i := i) d197_582 d197_583 d197_584 d197_585 d197_586 hs hL (by omega)) ?_
  refine Eq.mpr (g_cV d197_587 k11_80 rfl rfl rfl) ?_
  have ag : Agree 96 154 [some (vI (aX X (i + 1)))] := ag_order _ (aX_sb X _)
  refine G_imp (G_keep (ag ρ τ hR)) ?_
  rintro v μ ⟨⟨r, hr, hv, hg⟩, hk⟩
  subst hv
  have hs2 := hs.keep hk
  show G 197 590 (lwL i) [vI r] μ QL
  refine Eq.mpr (g_aload_n d197_590 rfl rfl) ?_
  refine Eq.mpr (lw_arg (i := i) d197_591 d197_592 d197_593 d197_594 d197_595 hs2 hL (by omega)) ?_
  refine Eq.mpr (g_cV d197_596 k11_83 rfl rfl rfl) ?_
  refine G_imp (G_keep hg) ?_
  rintro v μ' ⟨⟨hv, ρ2, τ2, hm, hR2⟩, hk2⟩
  subst hv
  show G 197 599 (lwL i) [vI r, vI r] μ' QL
  refine Eq.mpr (g_icmp_eq (tgt := 1042) d197_599 (by decide)) ?_
  rw [if_pos rfl, hm]
  exact IH ρ2 τ2 hR2 (by rw [← hm]; exact hs2.keep hk2)
set_option maxRecDepth 10000 in
theorem law_16 (hR : RR ρ) (hs : SCR L X (toM ρ τ)) (hL : L ≤ 2560) (hi : 0 ≤ i ∧ i + 5 ≤ L) (IH : ∀ ρ2 τ2, RR ρ2 → SCR L X (toM ρ2 τ2) → G 197 1042 (lwL i) [] (toM ρ2 τ2) QL) : G 197 604 (lwL i) [] (toM ρ τ) QL := by
  refine Eq.mpr (g_aload_n d197_604 rfl rfl) ?_
  refine Eq.mpr (lw_arg (i := i) d197_605 d197_606 d197_607 d197_608 d197_609 hs hL (by omega)) ?_
  refine Eq.mpr (lw_arg (i := i) d197_610 d197_611 d197_612 d197_613 d197_614 hs hL (by omega)) ?_
  refine Eq.mpr (g_cV d197_615 k11_84 rfl rfl rfl) ?_
  have ag : Agree 97 157 [some (vI (aX X (i + 1))), some (vI (aX X (i + 2)))] := ag_behind _ _ (aX_sb X _) (aX_sb X _)
  refine G_imp (G_keep (ag ρ τ hR)) ?_
  rintro v μ ⟨⟨r, hr, hv, hg⟩, hk⟩
  subst hv
  have hs2 := hs.keep hk
  show G 197 618 (lwL i) [vI r] μ QL
  refine Eq.mpr (g_aload_n d197_618 rfl rfl) ?_
  refine Eq.mpr (lw_arg (i := i) d197_619 d197_620 d197_621 d197_622 d197_623 hs2 hL (by omega)) ?_
  refine Eq.mpr (lw_arg (i := i) d197_624 d197_625 d197_626 d197_627 d197_628 hs2 hL (by omega)) ?_
  refine Eq.mpr (g_cV d197_629 k11_87 rfl rfl rfl) ?_
  refine G_imp (G_keep hg) ?_
  rintro v μ' ⟨⟨hv, ρ2, τ2, hm, hR2⟩, hk2⟩
  subst hv
  show G 197 632 (lwL i) [vI r, vI r] μ' QL
  refine Eq.mpr (g_icmp_eq (tgt := 1042) d197_632 (by decide)) ?_
  rw [if_pos rfl, hm]
  exact IH ρ2 τ2 hR2 (by rw [← hm]; exact hs2.keep hk2)
set_option maxRecDepth 10000 in
theorem law_17 (hR : RR ρ) (hs : SCR L X (toM ρ τ)) (hL : L ≤ 2560) (hi : 0 ≤ i ∧ i + 5 ≤ L) (IH : ∀ ρ2 τ2, RR ρ2 → SCR L X (toM ρ2 τ2) → G 197 1042 (lwL i) [] (toM ρ2 τ2) QL) : G 197 637 (lwL i) [] (toM ρ τ) QL := by
  refine Eq.mpr (g_aload_n d197_637 rfl rfl) ?_
  refine Eq.mpr (lw_arg (i := i) d197_638 d197_639 d197_640 d197_641 d197_642 hs hL (by omega)) ?_
  refine Eq.mpr (lw_arg (i := i) d197_643 d197_644 d197_645 d197_646 d197_647 hs hL (by omega)) ?_
  refine Eq.mpr (g_cV d197_648 k11_88 rfl rfl rfl) ?_
  have ag : Agree 98 159 [some (vI (aX X (i + 1))), some (vI (aX X (i + 2)))] := ag_most _ _ (aX_sb X _) (aX_sb X _)
  refine G_imp (G_keep (ag ρ τ hR)) ?_
  rintro v μ ⟨⟨r, hr, hv, hg⟩, hk⟩
  subst hv
  have hs2 := hs.keep hk
  show G 197 651 (lwL i) [vI r] μ QL
  refine Eq.mpr (g_aload_n d197_651 rfl rfl) ?_
  refine Eq.mpr (lw_arg (i := i) d197_652 d197_653 d197_654 d197_655 d197_656 hs2 hL (by omega)) ?_
  refine Eq.mpr (lw_arg (i := i) d197_657 d197_658 d197_659 d197_660 d197_661 hs2 hL (by omega)) ?_
  refine Eq.mpr (g_cV d197_662 k11_91 rfl rfl rfl) ?_
  refine G_imp (G_keep hg) ?_
  rintro v μ' ⟨⟨hv, ρ2, τ2, hm, hR2⟩, hk2⟩
  subst hv
  show G 197 665 (lwL i) [vI r, vI r] μ' QL
  refine Eq.mpr (g_icmp_eq (tgt := 1042) d197_665 (by decide)) ?_
  rw [if_pos rfl, hm]
  exact IH ρ2 τ2 hR2 (by rw [← hm]; exact hs2.keep hk2)
set_option maxRecDepth 10000 in
theorem law_18 (hR : RR ρ) (hs : SCR L X (toM ρ τ)) (hL : L ≤ 2560) (hi : 0 ≤ i ∧ i + 5 ≤ L) (IH : ∀ ρ2 τ2, RR ρ2 → SCR L X (toM ρ2 τ2) → G 197 1042 (lwL i) [] (toM ρ2 τ2) QL) : G 197 670 (lwL i) [] (toM ρ τ) QL := by
  refine Eq.mpr (g_aload_n d197_670 rfl rfl) ?_
  refine Eq.mpr (lw_arg (i := i) d197_671 d197_672 d197_673 d197_674 d197_675 hs hL (by omega)) ?_
  refine Eq.mpr (g_cV d197_676 k11_92 rfl rfl rfl) ?_
  have ag : Agree 99 160 [some (vI (aX X (i + 1)))] := ag_walk _ (aX_sb X _)
  refine G_imp (G_keep (ag ρ τ hR)) ?_
  rintro v μ ⟨⟨r, hr, hv, hg⟩, hk⟩
  subst hv
  have hs2 := hs.keep hk
  show G 197 679 (lwL i) [vI r] μ QL
  refine Eq.mpr (g_aload_n d197_679 rfl rfl) ?_
  refine Eq.mpr (lw_arg (i := i) d197_680 d197_681 d197_682 d197_683 d197_684 hs2 hL (by omega)) ?_
  refine Eq.mpr (g_cV d197_685 k11_95 rfl rfl rfl) ?_
  refine G_imp (G_keep hg) ?_
  rintro v μ' ⟨⟨hv, ρ2, τ2, hm, hR2⟩, hk2⟩
  subst hv
  show G 197 688 (lwL i) [vI r, vI r] μ' QL
  refine Eq.mpr (g_icmp_eq (tgt := 1042) d197_688 (by decide)) ?_
  rw [if_pos rfl, hm]
  exact IH ρ2 τ2 hR2 (by rw [← hm]; exact hs2.keep hk2)
set_option maxRecDepth 10000 in
theorem law_19 (hR : RR ρ) (hs : SCR L X (toM ρ τ)) (hL : L ≤ 2560) (hi : 0 ≤ i ∧ i + 5 ≤ L) (IH : ∀ ρ2 τ2, RR ρ2 → SCR L X (toM ρ2 τ2) → G 197 1042 (lwL i) [] (toM ρ2 τ2) QL) : G 197 693 (lwL i) [] (toM ρ τ) QL := by
  refine Eq.mpr (g_aload_n d197_693 rfl rfl) ?_
  refine Eq.mpr (g_cV d197_694 k11_96 rfl rfl rfl) ?_
  have ag : Agree 100 161 [] := ag_rest
  refine G_imp (G_keep (ag ρ τ hR)) ?_
  rintro v μ ⟨⟨r, hr, hv, hg⟩, hk⟩
  subst hv
  have hs2 := hs.keep hk
  show G 197 697 (lwL i) [vI r] μ QL
  refine Eq.mpr (g_aload_n d197_697 rfl rfl) ?_
  refine Eq.mpr (g_cV d197_698 k11_99 rfl rfl rfl) ?_
  refine G_imp (G_keep hg) ?_
  rintro v μ' ⟨⟨hv, ρ2, τ2, hm, hR2⟩, hk2⟩
  subst hv
  show G 197 701 (lwL i) [vI r, vI r] μ' QL
  refine Eq.mpr (g_icmp_eq (tgt := 1042) d197_701 (by decide)) ?_
  rw [if_pos rfl, hm]
  exact IH ρ2 τ2 hR2 (by rw [← hm]; exact hs2.keep hk2)
set_option maxRecDepth 10000 in
theorem law_20 (hR : RR ρ) (hs : SCR L X (toM ρ τ)) (hL : L ≤ 2560) (hi : 0 ≤ i ∧ i + 5 ≤ L) (IH : ∀ ρ2 τ2, RR ρ2 → SCR L X (toM ρ2 τ2) → G 197 1042 (lwL i) [] (toM ρ2 τ2) QL) : G 197 706 (lwL i) [] (toM ρ τ) QL := by
  refine Eq.mpr (g_aload_n d197_706 rfl rfl) ?_
  refine Eq.mpr (lw_arg (i := i) d197_707 d197_708 d197_709 d197_710 d197_711 hs hL (by omega)) ?_
  refine Eq.mpr (lw_arg (i := i) d197_712 d197_713 d197_714 d197_715 d197_716 hs hL (by omega)) ?_
  refine Eq.mpr (g_cV d197_717 k11_100 rfl rfl rfl) ?_
  have ag : Agree 101 162 [some (vI (aX X (i + 1))), some (vI (aX X (i + 2)))] := ag_walked _ _ (aX_sb X _) (aX_sb X _)
  refine G_imp (G_keep (ag ρ τ hR)) ?_
  rintro v μ ⟨⟨r, hr, hv, hg⟩, hk⟩
  subst hv
  have hs2 := hs.keep hk
  show G 197 720 (lwL i) [vI r] μ QL
  refine Eq.mpr (g_aload_n d197_720 rfl rfl) ?_
  refine Eq.mpr (lw_arg (i := i) d197_721 d197_722 d197_723 d197_724 d197_725 hs2 hL (by omega)) ?_
  refine Eq.mpr (lw_arg (i := i) d197_726 d197_727 d197_728 d197_729 d197_730 hs2 hL (by omega)) ?_
  refine Eq.mpr (g_cV d197_731 k11_103 rfl rfl rfl) ?_
  refine G_imp (G_keep hg) ?_
  rintro v μ' ⟨⟨hv, ρ2, τ2, hm, hR2⟩, hk2⟩
  subst hv
  show G 197 734 (lwL i) [vI r, vI r] μ' QL
  refine Eq.mpr (g_icmp_eq (tgt := 1042) d197_734 (by decide)) ?_
  rw [if_pos rfl, hm]
  exact IH ρ2 τ2 hR2 (by rw [← hm]; exact hs2.keep hk2)
set_option maxRecDepth 10000 in
theorem law_21 (hR : RR ρ) (hs : SCR L X (toM ρ τ)) (hL : L ≤ 2560) (hi : 0 ≤ i ∧ i + 5 ≤ L) (IH : ∀ ρ2 τ2, RR ρ2 → SCR L X (toM ρ2 τ2) → G 197 1042 (lwL i) [] (toM ρ2 τ2) QL) : G 197 739 (lwL i) [] (toM ρ τ) QL := by
  refine Eq.mpr (g_aload_n d197_739 rfl rfl) ?_
  refine Eq.mpr (lw_arg (i := i) d197_740 d197_741 d197_742 d197_743 d197_744 hs hL (by omega)) ?_
  refine Eq.mpr (lw_arg (i := i) d197_745 d197_746 d197_747 d197_748 d197_749 hs hL (by omega)) ?_
  refine Eq.mpr (lw_arg (i := i) d197_750 d197_751 d197_752 d197_753 d197_754 hs hL (by omega)) ?_
  refine Eq.mpr (g_cV d197_755 k11_104 rfl rfl rfl) ?_
  have ag : Agree 102 164 [some (vI (aX X (i + 1))), some (vI (aX X (i + 2))), some (vI (aX X (i + 3)))] := ag_trade _ _ _ (aX_sb X _) (aX_sb X _) (aX_sb X _)
  refine G_imp (G_keep (ag ρ τ hR)) ?_
  rintro v μ ⟨⟨r, hr, hv, hg⟩, hk⟩
  subst hv
  have hs2 := hs.keep hk
  show G 197 758 (lwL i) [vI r] μ QL
  refine Eq.mpr (g_aload_n d197_758 rfl rfl) ?_
  refine Eq.mpr (lw_arg (i := i) d197_759 d197_760 d197_761 d197_762 d197_763 hs2 hL (by omega)) ?_
  refine Eq.mpr (lw_arg (i := i) d197_764 d197_765 d197_766 d197_767 d197_768 hs2 hL (by omega)) ?_
  refine Eq.mpr (lw_arg (i := i) d197_769 d197_770 d197_771 d197_772 d197_773 hs2 hL (by omega)) ?_
  refine Eq.mpr (g_cV d197_774 k11_107 rfl rfl rfl) ?_
  refine G_imp (G_keep hg) ?_
  rintro v μ' ⟨⟨hv, ρ2, τ2, hm, hR2⟩, hk2⟩
  subst hv
  show G 197 777 (lwL i) [vI r, vI r] μ' QL
  refine Eq.mpr (g_icmp_eq (tgt := 1042) d197_777 (by decide)) ?_
  rw [if_pos rfl, hm]
  exact IH ρ2 τ2 hR2 (by rw [← hm]; exact hs2.keep hk2)
set_option maxRecDepth 10000 in
theorem law_22 (hR : RR ρ) (hs : SCR L X (toM ρ τ)) (hL : L ≤ 2560) (hi : 0 ≤ i ∧ i + 5 ≤ L) (IH : ∀ ρ2 τ2, RR ρ2 → SCR L X (toM ρ2 τ2) → G 197 1042 (lwL i) [] (toM ρ2 τ2) QL) : G 197 782 (lwL i) [] (toM ρ τ) QL := by
  refine Eq.mpr (g_aload_n d197_782 rfl rfl) ?_
  refine Eq.mpr (lw_arg (i := i) d197_783 d197_784 d197_785 d197_786 d197_787 hs hL (by omega)) ?_
  refine Eq.mpr (lw_arg (i := i) d197_788 d197_789 d197_790 d197_791 d197_792 hs hL (by omega)) ?_
  refine Eq.mpr (lw_arg (i := i) d197_793 d197_794 d197_795 d197_796 d197_797 hs hL (by omega)) ?_
  refine Eq.mpr (lw_arg (i := i) d197_798 d197_799 d197_800 d197_801 d197_802 hs hL (by omega)) ?_
  refine Eq.mpr (g_cV d197_803 k11_108 rfl rfl rfl) ?_
  have ag : Agree 103 165 [some (vI (aX X (i + 1))), some (vI (aX X (i + 2))), some (vI (aX X (i + 3))), some (vI (aX X (i + 4)))] := ag_bell _ _ _ _ (aX_sb X _) (aX_sb X _) (aX_sb X _) (aX_sb X _)
  refine G_imp (G_keep (ag ρ τ hR)) ?_
  rintro v μ ⟨⟨r, hr, hv, hg⟩, hk⟩
  subst hv
  have hs2 := hs.keep hk
  show G 197 806 (lwL i) [vI r] μ QL
  refine Eq.mpr (g_aload_n d197_806 rfl rfl) ?_
  refine Eq.mpr (lw_arg (i := i) d197_807 d197_808 d197_809 d197_810 d197_811 hs2 hL (by omega)) ?_
  refine Eq.mpr (lw_arg (i := i) d197_812 d197_813 d197_814 d197_815 d197_816 hs2 hL (by omega)) ?_
  refine Eq.mpr (lw_arg (i := i) d197_817 d197_818 d197_819 d197_820 d197_821 hs2 hL (by omega)) ?_
  refine Eq.mpr (lw_arg (i := i) d197_822 d197_823 d197_824 d197_825 d197_826 hs2 hL (by omega)) ?_
  refine Eq.mpr (g_cV d197_827 k11_112 rfl rfl rfl) ?_
  refine G_imp (G_keep hg) ?_
  rintro v μ' ⟨⟨hv, ρ2, τ2, hm, hR2⟩, hk2⟩
  subst hv
  show G 197 830 (lwL i) [vI r, vI r] μ' QL
  refine Eq.mpr (g_icmp_eq (tgt := 1042) d197_830 (by decide)) ?_
  rw [if_pos rfl, hm]
  exact IH ρ2 τ2 hR2 (by rw [← hm]; exact hs2.keep hk2)
set_option maxRecDepth 10000 in
theorem law_23 (hR : RR ρ) (hs : SCR L X (toM ρ τ)) (hL : L ≤ 2560) (hi : 0 ≤ i ∧ i + 5 ≤ L) (IH : ∀ ρ2 τ2, RR ρ2 → SCR L X (toM ρ2 τ2) → G 197 1042 (lwL i) [] (toM ρ2 τ2) QL) : G 197 835 (lwL i) [] (toM ρ τ) QL := by
  refine Eq.mpr (g_aload_n d197_835 rfl rfl) ?_
  refine Eq.mpr (g_cV d197_836 k11_113 rfl rfl rfl) ?_
  have ag : Agree 104 166 [] := ag_hush
  refine G_imp (G_keep (ag ρ τ hR)) ?_
  rintro v μ ⟨⟨r, hr, hv, hg⟩, hk⟩
  subst hv
  have hs2 := hs.keep hk
  show G 197 839 (lwL i) [vI r] μ QL
  refine Eq.mpr (g_aload_n d197_839 rfl rfl) ?_
  refine Eq.mpr (g_cV d197_840 k11_116 rfl rfl rfl) ?_
  refine G_imp (G_keep hg) ?_
  rintro v μ' ⟨⟨hv, ρ2, τ2, hm, hR2⟩, hk2⟩
  subst hv
  show G 197 843 (lwL i) [vI r, vI r] μ' QL
  refine Eq.mpr (g_icmp_eq (tgt := 1042) d197_843 (by decide)) ?_
  rw [if_pos rfl, hm]
  exact IH ρ2 τ2 hR2 (by rw [← hm]; exact hs2.keep hk2)
set_option maxRecDepth 10000 in
theorem law_24 (hR : RR ρ) (hs : SCR L X (toM ρ τ)) (hL : L ≤ 2560) (hi : 0 ≤ i ∧ i + 5 ≤ L) (IH : ∀ ρ2 τ2, RR ρ2 → SCR L X (toM ρ2 τ2) → G 197 1042 (lwL i) [] (toM ρ2 τ2) QL) : G 197 848 (lwL i) [] (toM ρ τ) QL := by
  refine Eq.mpr (g_aload_n d197_848 rfl rfl) ?_
  refine Eq.mpr (lw_arg (i := i) d197_849 d197_850 d197_851 d197_852 d197_853 hs hL (by omega)) ?_
  refine Eq.mpr (g_cV d197_854 k11_117 rfl rfl rfl) ?_
  have ag : Agree 105 171 [some (vI (aX X (i + 1)))] := ag_wrong _ (aX_sb X _)
  refine G_imp (G_keep (ag ρ τ hR)) ?_
  rintro v μ ⟨⟨r, hr, hv, hg⟩, hk⟩
  subst hv
  have hs2 := hs.keep hk
  show G 197 857 (lwL i) [vI r] μ QL
  refine Eq.mpr (g_aload_n d197_857 rfl rfl) ?_
  refine Eq.mpr (lw_arg (i := i) d197_858 d197_859 d197_860 d197_861 d197_862 hs2 hL (by omega)) ?_
  refine Eq.mpr (g_cV d197_863 k11_120 rfl rfl rfl) ?_
  refine G_imp (G_keep hg) ?_
  rintro v μ' ⟨⟨hv, ρ2, τ2, hm, hR2⟩, hk2⟩
  subst hv
  show G 197 866 (lwL i) [vI r, vI r] μ' QL
  refine Eq.mpr (g_icmp_eq (tgt := 1042) d197_866 (by decide)) ?_
  rw [if_pos rfl, hm]
  exact IH ρ2 τ2 hR2 (by rw [← hm]; exact hs2.keep hk2)
set_option maxRecDepth 10000 in
theorem law_25 (hR : RR ρ) (hs : SCR L X (toM ρ τ)) (hL : L ≤ 2560) (hi : 0 ≤ i ∧ i + 5 ≤ L) (IH : ∀ ρ2 τ2, RR ρ2 → SCR L X (toM ρ2 τ2) → G 197 1042 (lwL i) [] (toM ρ2 τ2) QL) : G 197 871 (lwL i) [] (toM ρ τ) QL := by
  refine Eq.mpr (g_aload_n d197_871 rfl rfl) ?_
  refine Eq.mpr (lw_arg (i := i) d197_872 d197_873 d197_874 d197_875 d197_876 hs hL (by omega)) ?_
  refine Eq.mpr (lw_arg (i := i) d197_877 d197_878 d197_879 d197_880 d197_881 hs hL (by omega)) ?_
  refine Eq.mpr (lw_arg (i := i) d197_882 d197_883 d197_884 d197_885 d197_886 hs hL (by omega)) ?_
  refine Eq.mpr (g_cV d197_887 k11_121 rfl rfl rfl) ?_
  have ag : Agree 106 172 [some (vI (aX X (i + 1))), some (vI (aX X (i + 2))), some (vI (aX X (i + 3)))] := ag_seen _ _ _ (aX_sb X _) (aX_sb X _) (aX_sb X _)
  refine G_imp (G_keep (ag ρ τ hR)) ?_
  rintro v μ ⟨⟨r, hr, hv, hg⟩, hk⟩
  subst hv
  have hs2 := hs.keep hk
  show G 197 890 (lwL i) [vI r] μ QL
  refine Eq.mpr (g_aload_n d197_890 rfl rfl) ?_
  refine Eq.mpr (lw_arg (i := i) d197_891 d197_892 d197_893 d197_894 d197_895 hs2 hL (by omega)) ?_
  refine Eq.mpr (lw_arg (i := i) d197_896 d197_897 d197_898 d197_899 d197_900 hs2 hL (by omega)) ?_
  refine Eq.mpr (lw_arg (i := i) d197_901 d197_902 d197_903 d197_904 d197_905 hs2 hL (by omega)) ?_
  refine Eq.mpr (g_cV d197_906 k11_124 rfl rfl rfl) ?_
  refine G_imp (G_keep hg) ?_
  rintro v μ' ⟨⟨hv, ρ2, τ2, hm, hR2⟩, hk2⟩
  subst hv
  show G 197 909 (lwL i) [vI r, vI r] μ' QL
  refine Eq.mpr (g_icmp_eq (tgt := 1042) d197_909 (by decide)) ?_
  rw [if_pos rfl, hm]
  exact IH ρ2 τ2 hR2 (by rw [← hm]; exact hs2.keep hk2)
set_option maxRecDepth 10000 in
theorem law_26 (hR : RR ρ) (hs : SCR L X (toM ρ τ)) (hL : L ≤ 2560) (hi : 0 ≤ i ∧ i + 5 ≤ L) (IH : ∀ ρ2 τ2, RR ρ2 → SCR L X (toM ρ2 τ2) → G 197 1042 (lwL i) [] (toM ρ2 τ2) QL) : G 197 914 (lwL i) [] (toM ρ τ) QL := by
  refine Eq.mpr (g_aload_n d197_914 rfl rfl) ?_
  refine Eq.mpr (g_cV d197_915 k11_125 rfl rfl rfl) ?_
  have ag : Agree 107 173 [] := ag_forget
  refine G_imp (G_keep (ag ρ τ hR)) ?_
  rintro v μ ⟨⟨r, hr, hv, hg⟩, hk⟩
  subst hv
  have hs2 := hs.keep hk
  show G 197 918 (lwL i) [vI r] μ QL
  refine Eq.mpr (g_aload_n d197_918 rfl rfl) ?_
  refine Eq.mpr (g_cV d197_919 k11_128 rfl rfl rfl) ?_
  refine G_imp (G_keep hg) ?_
  rintro v μ' ⟨⟨hv, ρ2, τ2, hm, hR2⟩, hk2⟩
  subst hv
  show G 197 922 (lwL i) [vI r, vI r] μ' QL
  refine Eq.mpr (g_icmp_eq (tgt := 1042) d197_922 (by decide)) ?_
  rw [if_pos rfl, hm]
  exact IH ρ2 τ2 hR2 (by rw [← hm]; exact hs2.keep hk2)
set_option maxRecDepth 10000 in
theorem law_27 (hR : RR ρ) (hs : SCR L X (toM ρ τ)) (hL : L ≤ 2560) (hi : 0 ≤ i ∧ i + 5 ≤ L) (IH : ∀ ρ2 τ2, RR ρ2 → SCR L X (toM ρ2 τ2) → G 197 1042 (lwL i) [] (toM ρ2 τ2) QL) : G 197 927 (lwL i) [] (toM ρ τ) QL := by
  refine Eq.mpr (g_aload_n d197_927 rfl rfl) ?_
  refine Eq.mpr (g_cV d197_928 k11_129 rfl rfl rfl) ?_
  have ag : Agree 108 175 [] := ag_liars
  refine G_imp (G_keep (ag ρ τ hR)) ?_
  rintro v μ ⟨⟨r, hr, hv, hg⟩, hk⟩
  subst hv
  have hs2 := hs.keep hk
  show G 197 931 (lwL i) [vI r] μ QL
  refine Eq.mpr (g_aload_n d197_931 rfl rfl) ?_
  refine Eq.mpr (g_cV d197_932 k11_132 rfl rfl rfl) ?_
  refine G_imp (G_keep hg) ?_
  rintro v μ' ⟨⟨hv, ρ2, τ2, hm, hR2⟩, hk2⟩
  subst hv
  show G 197 935 (lwL i) [vI r, vI r] μ' QL
  refine Eq.mpr (g_icmp_eq (tgt := 1042) d197_935 (by decide)) ?_
  rw [if_pos rfl, hm]
  exact IH ρ2 τ2 hR2 (by rw [← hm]; exact hs2.keep hk2)
set_option maxRecDepth 10000 in
theorem law_28 (hR : RR ρ) (hs : SCR L X (toM ρ τ)) (hL : L ≤ 2560) (hi : 0 ≤ i ∧ i + 5 ≤ L) (IH : ∀ ρ2 τ2, RR ρ2 → SCR L X (toM ρ2 τ2) → G 197 1042 (lwL i) [] (toM ρ2 τ2) QL) : G 197 940 (lwL i) [] (toM ρ τ) QL := by
  refine Eq.mpr (g_aload_n d197_940 rfl rfl) ?_
  refine Eq.mpr (lw_arg (i := i) d197_941 d197_942 d197_943 d197_944 d197_945 hs hL (by omega)) ?_
  refine Eq.mpr (lw_arg (i := i) d197_946 d197_947 d197_948 d197_949 d197_950 hs hL (by omega)) ?_
  refine Eq.mpr (g_cV d197_951 k11_133 rfl rfl rfl) ?_
  have ag : Agree 109 176 [some (vI (aX X (i + 1))), some (vI (aX X (i + 2)))] := ag_canBe _ _ (aX_sb X _) (aX_sb X _)
  refine G_imp (G_keep (ag ρ τ hR)) ?_
  rintro v μ ⟨⟨r, hr, hv, hg⟩, hk⟩
  subst hv
  have hs2 := hs.keep hk
  show G 197 954 (lwL i) [vI r] μ QL
  refine Eq.mpr (g_aload_n d197_954 rfl rfl) ?_
  refine Eq.mpr (lw_arg (i := i) d197_955 d197_956 d197_957 d197_958 d197_959 hs2 hL (by omega)) ?_
  refine Eq.mpr (lw_arg (i := i) d197_960 d197_961 d197_962 d197_963 d197_964 hs2 hL (by omega)) ?_
  refine Eq.mpr (g_cV d197_965 k11_136 rfl rfl rfl) ?_
  refine G_imp (G_keep hg) ?_
  rintro v μ' ⟨⟨hv, ρ2, τ2, hm, hR2⟩, hk2⟩
  subst hv
  show G 197 968 (lwL i) [vI r, vI r] μ' QL
  refine Eq.mpr (g_icmp_eq (tgt := 1042) d197_968 (by decide)) ?_
  rw [if_pos rfl, hm]
  exact IH ρ2 τ2 hR2 (by rw [← hm]; exact hs2.keep hk2)
set_option maxRecDepth 10000 in
theorem law_29 (hR : RR ρ) (hs : SCR L X (toM ρ τ)) (hL : L ≤ 2560) (hi : 0 ≤ i ∧ i + 5 ≤ L) (IH : ∀ ρ2 τ2, RR ρ2 → SCR L X (toM ρ2 τ2) → G 197 1042 (lwL i) [] (toM ρ2 τ2) QL) : G 197 973 (lwL i) [] (toM ρ τ) QL := by
  refine Eq.mpr (g_aload_n d197_973 rfl rfl) ?_
  refine Eq.mpr (lw_arg (i := i) d197_974 d197_975 d197_976 d197_977 d197_978 hs hL (by omega)) ?_
  refine Eq.mpr (g_cV d197_979 k11_137 rfl rfl rfl) ?_
  have ag : Agree 110 177 [some (vI (aX X (i + 1)))] := ag_hang _ (aX_sb X _)
  refine G_imp (G_keep (ag ρ τ hR)) ?_
  rintro v μ ⟨⟨r, hr, hv, hg⟩, hk⟩
  subst hv
  have hs2 := hs.keep hk
  show G 197 982 (lwL i) [vI r] μ QL
  refine Eq.mpr (g_aload_n d197_982 rfl rfl) ?_
  refine Eq.mpr (lw_arg (i := i) d197_983 d197_984 d197_985 d197_986 d197_987 hs2 hL (by omega)) ?_
  refine Eq.mpr (g_cV d197_988 k11_140 rfl rfl rfl) ?_
  refine G_imp (G_keep hg) ?_
  rintro v μ' ⟨⟨hv, ρ2, τ2, hm, hR2⟩, hk2⟩
  subst hv
  show G 197 991 (lwL i) [vI r, vI r] μ' QL
  refine Eq.mpr (g_icmp_eq (tgt := 1042) d197_991 (by decide)) ?_
  rw [if_pos rfl, hm]
  exact IH ρ2 τ2 hR2 (by rw [← hm]; exact hs2.keep hk2)
set_option maxRecDepth 10000 in
theorem law_30 (hR : RR ρ) (hs : SCR L X (toM ρ τ)) (hL : L ≤ 2560) (hi : 0 ≤ i ∧ i + 5 ≤ L) (IH : ∀ ρ2 τ2, RR ρ2 → SCR L X (toM ρ2 τ2) → G 197 1042 (lwL i) [] (toM ρ2 τ2) QL) : G 197 996 (lwL i) [] (toM ρ τ) QL := by
  refine Eq.mpr (g_aload_n d197_996 rfl rfl) ?_
  refine Eq.mpr (lw_arg (i := i) d197_997 d197_998 d197_999 d197_1000 d197_1001 hs hL (by omega)) ?_
  refine Eq.mpr (g_cV d197_1002 k11_141 rfl rfl rfl) ?_
  have ag : Agree 111 178 [some (vI (aX X (i + 1)))] := ag_ring _ (aX_sb X _)
  refine G_imp (G_keep (ag ρ τ hR)) ?_
  rintro v μ ⟨⟨r, hr, hv, hg⟩, hk⟩
  subst hv
  have hs2 := hs.keep hk
  show G 197 1005 (lwL i) [vI r] μ QL
  refine Eq.mpr (g_aload_n d197_1005 rfl rfl) ?_
  refine Eq.mpr (lw_arg (i := i) d197_1006 d197_1007 d197_1008 d197_1009 d197_1010 hs2 hL (by omega)) ?_
  refine Eq.mpr (g_cV d197_1011 k11_144 rfl rfl rfl) ?_
  refine G_imp (G_keep hg) ?_
  rintro v μ' ⟨⟨hv, ρ2, τ2, hm, hR2⟩, hk2⟩
  subst hv
  show G 197 1014 (lwL i) [vI r, vI r] μ' QL
  refine Eq.mpr (g_icmp_eq (tgt := 1042) d197_1014 (by decide)) ?_
  rw [if_pos rfl, hm]
  exact IH ρ2 τ2 hR2 (by rw [← hm]; exact hs2.keep hk2)
set_option maxRecDepth 10000 in
theorem law_31 (hR : RR ρ) (hs : SCR L X (toM ρ τ)) (hL : L ≤ 2560) (hi : 0 ≤ i ∧ i + 5 ≤ L) (IH : ∀ ρ2 τ2, RR ρ2 → SCR L X (toM ρ2 τ2) → G 197 1042 (lwL i) [] (toM ρ2 τ2) QL) : G 197 1019 (lwL i) [] (toM ρ τ) QL := by
  refine Eq.mpr (g_aload_n d197_1019 rfl rfl) ?_
  refine Eq.mpr (lw_arg (i := i) d197_1020 d197_1021 d197_1022 d197_1023 d197_1024 hs hL (by omega)) ?_
  refine Eq.mpr (g_cV d197_1025 k11_145 rfl rfl rfl) ?_
  have ag : Agree 112 179 [some (vI (aX X (i + 1)))] := ag_count _ (aX_sb X _)
  refine G_imp (G_keep (ag ρ τ hR)) ?_
  rintro v μ ⟨⟨r, hr, hv, hg⟩, hk⟩
  subst hv
  have hs2 := hs.keep hk
  show G 197 1028 (lwL i) [vI r] μ QL
  refine Eq.mpr (g_aload_n d197_1028 rfl rfl) ?_
  refine Eq.mpr (lw_arg (i := i) d197_1029 d197_1030 d197_1031 d197_1032 d197_1033 hs2 hL (by omega)) ?_
  refine Eq.mpr (g_cV d197_1034 k11_148 rfl rfl rfl) ?_
  refine G_imp (G_keep hg) ?_
  rintro v μ' ⟨⟨hv, ρ2, τ2, hm, hR2⟩, hk2⟩
  subst hv
  show G 197 1037 (lwL i) [vI r, vI r] μ' QL
  refine Eq.mpr (g_icmp_eq (tgt := 1042) d197_1037 (by decide)) ?_
  rw [if_pos rfl, hm]
  exact IH ρ2 τ2 hR2 (by rw [← hm]; exact hs2.keep hk2)
end LC
