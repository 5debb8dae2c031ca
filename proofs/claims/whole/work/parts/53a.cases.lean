/-! the law's cases -/
theorem lcL_190 : Cond.constantLong RL 190 (4294967295) ∈ lw_tbl := by decide +kernel
theorem kset_0 {a v : Int32} (h : K_set a v = 0) : cSet a v := Classical.byContradiction (fun z => by
  unfold K_set at h
  rw [if_neg z] at h
  exact absurd h (by decide))
theorem kticks_0 {a : Int32} (h : K_ticks a = 0) : inn a 1 60 := Classical.byContradiction (fun z => by
  unfold K_ticks at h
  rw [if_neg z] at h
  exact absurd h (by decide))
theorem khand_0 {g : Gs} {b a : Int32} (h : K_handedIn g b a = 0) : inn b 0 (g 5 - 1) := Classical.byContradiction (fun z => by
  unfold K_handedIn at h
  rw [if_neg z] at h
  exact absurd h (by decide))
section CASEX
variable {p : Program} {l : Launch} {e : Env} {R : Room} {s : State} {m : MethodId} {args : Array Value} {below : List Frame} {meth : Method} {c : Code} {Q : State → Prop} {t : Mt} {w : Wd} {cs sl pc nx : Nat} {loc : List (Option VV)} {st : List VV} {sg : Sg}
theorem V_cX {t' tm : Mt} {n idx x mo B : Nat} {av rest : List VV} {post : Option VV → Sg → Prop} (hC : Cx p R s m args meth c t w) (hM : M l t' w (vR (some (5, 0, x)) :: av) sg post) (hmk : MkV t' n) (hlk : LkM (mY t).cls idx t') (hd : Dk t pc (.invokevirtual idx) 3 nx) (hcls : gC 5 = (mY t').cls) (hn : av.length = n) (hst : st = av.reverse ++ vR (some (5, 0, x)) :: rest) (hroom : (rest.map catV).sum ≤ 8) (hR : mF t' + 1 ≤ mF t ∧ 8 + (mL t' + 11) + mO t' ≤ mO t) (hz : mC t' = 0 ∧ mS t' = 0) (hcell : cs ≤ mC t ∧ sl ≤ mS t) (hpost : ∀ r g, post r g → Pd l w x mo B tm r g) (kk : ∀ a g post2, M l tm w [vR (some (6, 0, mo))] g post2 → (∀ r2 g3, post2 r2 g3 → ∃ b, r2 = some (vI b) ∧ Dd x mo B a b g3) → V p l e R s m args below meth c t w Q cs sl nx loc (vI a :: rest) g) : V p l e R s m args below meth c t w Q cs sl pc loc st sg := V_invV hC hM hmk hlk hd (by decide) hcls hn hst hroom hR (by rw [hz.1, hz.2]; exact hcell) (fun r sg' h => by
  rw [hz.1, hz.2]
  obtain ⟨a, rfl, post2, hM2, hp2⟩ := hpost r sg' h
  exact kk a sg' post2 hM2 hp2)
end CASEX
section CASES
variable {p : Program} {l : Launch} {e : Env} {s : State} {m : MethodId} {args : Array Value} {below : List Frame} {meth : Method} {c : Code} {Q : State → Prop} {w : Wd} {cs sl : Nat} {sg : Sg} {L : Nat} {xs : Nat → Int32}
set_option maxHeartbeats 4000000 in
set_option maxRecDepth 100000 in
theorem cs_append (h : LC l p s m args meth c L xs w) {i n c' B : Nat} (hT : T2 0 331 n c' B sg) (hi : i + 7 ≤ L) (hB : 7260 ≤ B ∧ B ≤ 50000) (hcell : cs + 1 ≤ 601024 ∧ sl + 6 ≤ 7293034) (kk : ∀ w1 g3 n c', LC l p s m args meth c L xs w1 → T2 0 331 n c' (B + 60) g3 → V p l e (mRm mtL_law) s m args below meth c mtL_law w1 Q (cs + 1) (sl + 6) 1906 (lloc (nI i) none none) [] g3) : V p l e (mRm mtL_law) s m args below meth c mtL_law w Q cs sl 172 (lloc (nI i) none none) [] sg := by
  obtain ⟨hC, hX, hWr, hBs, hXs, hbl, hL, hl0⟩ := id h
  refine V_aload_n hC kL_law_172 rfl ?_
  refine V_aload_n hC kL_law_173 rfl ?_
  refine V_iload hC kL_law_174 rfl ?_
  refine V_iconst hC (1) kL_law_176 (by decide) ?_
  refine V_iadd hC kL_law_177 ?_
  refine V_xald h kL_law_178 (sc_in (k := 1) hi hL (by decide)) ?_
  refine V_nameI (fun a1 e1 => ?_)
  refine V_aload_n hC kL_law_179 rfl ?_
  refine V_callT hC hX (lw_append hWr hl0 a1 (x := 0) (o := 339) hT.tr) mt_L_append ltL_101 kL_law_180 rfl rfl (Nat.le_of_ble_eq_true rfl) ⟨(Nat.le_of_ble_eq_true rfl), (Nat.le_of_ble_eq_true rfl)⟩ ⟨hcell.1, hcell.2⟩ (fun r w1 g2 hp => PW_post hp) (fun y w1 g2 hp => ?_)
  obtain ⟨k, hk, hw, post, hM, hpost⟩ := pr_append a1 hT (by decide) hWr hp
  obtain rfl : y = k := by cases hk; rfl
  have h1 := h.go hw
  have hC1 := h1.1
  refine V_istore hC1 (lloc (nI i) (some (vI y)) none) kL_law_183 rfl (Nat.le_of_ble_eq_true rfl) ?_
  refine V_aload_n hC1 kL_law_185 rfl ?_
  refine V_aload_n hC1 kL_law_186 rfl ?_
  refine V_iload hC1 kL_law_187 rfl ?_
  refine V_iconst hC1 (1) kL_law_189 (by decide) ?_
  refine V_iadd hC1 kL_law_190 ?_
  refine V_xald h1 kL_law_191 (sc_in (k := 1) hi hL (by decide)) ?_
  rw [← e1]
  refine V_cM hC1 hM mkX6_append lmL_106 kL_law_192 rfl rfl rfl (Nat.le_of_ble_eq_true rfl) ⟨(Nat.le_of_ble_eq_true rfl), (Nat.le_of_ble_eq_true rfl)⟩ ⟨rfl, rfl⟩ ⟨hcell.1, hcell.2⟩ hpost (fun b g3 hD => ?_)
  exact V_tail h1 ⟨hcell.1, hcell.2⟩ hD kL_law_195 kL_law_197 kL_law_198 kL_law_201 kL_law_203 kL_law_208 kL_law_210 kL_law_213 kL_law_214 kL_law_215 kL_law_216 kL_law_218 kL_law_219 kL_law_220 kL_law_225 (by decide) (fun n3 c3 hT3 => kk _ _ _ _ h1 hT3)
set_option maxHeartbeats 4000000 in
set_option maxRecDepth 100000 in
theorem cs_clearText (h : LC l p s m args meth c L xs w) {i n c' B : Nat} (hT : T2 0 331 n c' B sg) (hi : i + 7 ≤ L) (hB : 7260 ≤ B ∧ B ≤ 50000) (hcell : cs + 1 ≤ 601024 ∧ sl + 6 ≤ 7293034) (kk : ∀ w1 g3 n c', LC l p s m args meth c L xs w1 → T2 0 331 n c' (B + 60) g3 → V p l e (mRm mtL_law) s m args below meth c mtL_law w1 Q (cs + 1) (sl + 6) 1906 (lloc (nI i) none none) [] g3) : V p l e (mRm mtL_law) s m args below meth c mtL_law w Q cs sl 228 (lloc (nI i) none none) [] sg := by
  obtain ⟨hC, hX, hWr, hBs, hXs, hbl, hL, hl0⟩ := id h
  refine V_aload_n hC kL_law_228 rfl ?_
  refine V_cX hC (cf_clearText hWr hT.tr) mkX5_clearText lmL_110 kL_law_229 rfl rfl rfl (Nat.le_of_ble_eq_true rfl) ⟨(Nat.le_of_ble_eq_true rfl), (Nat.le_of_ble_eq_true rfl)⟩ ⟨rfl, rfl⟩ (by show cs ≤ 601024 ∧ sl ≤ 7293034; omega) (fun r g2 hp => pd_clear hT (by decide) hWr hp) (fun a g2 post hM hpost => ?_)
  refine V_aload_n hC kL_law_232 rfl ?_
  refine V_cM hC hM mkX6_clearText lmL_113 kL_law_233 rfl rfl rfl (Nat.le_of_ble_eq_true rfl) ⟨(Nat.le_of_ble_eq_true rfl), (Nat.le_of_ble_eq_true rfl)⟩ ⟨rfl, rfl⟩ (by show cs ≤ 601024 ∧ sl ≤ 7293034; omega) hpost (fun b g3 hD => ?_)
  exact V_tail2 h hD kL_law_236 (by decide) (fun n3 c3 hT3 => V_wd ⟨Nat.le_succ _, Nat.le_add_right _ _⟩ (kk _ _ _ _ h hT3))
set_option maxHeartbeats 4000000 in
set_option maxRecDepth 100000 in
theorem cs_errorPosition (h : LC l p s m args meth c L xs w) {i n c' B : Nat} (hT : T2 0 331 n c' B sg) (hi : i + 7 ≤ L) (hB : 7260 ≤ B ∧ B ≤ 50000) (hcell : cs + 1 ≤ 601024 ∧ sl + 6 ≤ 7293034) (kk : ∀ w1 g3 n c', LC l p s m args meth c L xs w1 → T2 0 331 n c' (B + 60) g3 → V p l e (mRm mtL_law) s m args below meth c mtL_law w1 Q (cs + 1) (sl + 6) 1906 (lloc (nI i) none none) [] g3) : V p l e (mRm mtL_law) s m args below meth c mtL_law w Q cs sl 241 (lloc (nI i) none none) [] sg := by
  obtain ⟨hC, hX, hWr, hBs, hXs, hbl, hL, hl0⟩ := id h
  refine V_aload_n hC kL_law_241 rfl ?_
  refine V_cX hC (cf_errorPosition hWr hT.tr (c := upd (sg 331) 0 0) ((pk_un (by decide)).trans hT.n) hT.inv) mkX5_errorPosition lmL_114 kL_law_242 rfl rfl rfl (Nat.le_of_ble_eq_true rfl) ⟨(Nat.le_of_ble_eq_true rfl), (Nat.le_of_ble_eq_true rfl)⟩ ⟨rfl, rfl⟩ (by show cs ≤ 601024 ∧ sl ≤ 7293034; omega) (fun r g2 hp => pd_error hT (by decide) hWr hp) (fun a g2 post hM hpost => ?_)
  refine V_aload_n hC kL_law_245 rfl ?_
  refine V_cM hC hM mkX6_errorPosition lmL_117 kL_law_246 rfl rfl rfl (Nat.le_of_ble_eq_true rfl) ⟨(Nat.le_of_ble_eq_true rfl), (Nat.le_of_ble_eq_true rfl)⟩ ⟨rfl, rfl⟩ (by show cs ≤ 601024 ∧ sl ≤ 7293034; omega) hpost (fun b g3 hD => ?_)
  exact V_tail2 h hD kL_law_249 (by decide) (fun n3 c3 hT3 => V_wd ⟨Nat.le_succ _, Nat.le_add_right _ _⟩ (kk _ _ _ _ h hT3))
set_option maxHeartbeats 4000000 in
set_option maxRecDepth 100000 in
theorem cs_load (h : LC l p s m args meth c L xs w) {i n c' B : Nat} (hT : T2 0 331 n c' B sg) (hi : i + 7 ≤ L) (hB : 7260 ≤ B ∧ B ≤ 50000) (hcell : cs + 1 ≤ 601024 ∧ sl + 6 ≤ 7293034) (kk : ∀ w1 g3 n c', LC l p s m args meth c L xs w1 → T2 0 331 n c' (B + 60) g3 → V p l e (mRm mtL_law) s m args below meth c mtL_law w1 Q (cs + 1) (sl + 6) 1906 (lloc (nI i) none none) [] g3) : V p l e (mRm mtL_law) s m args below meth c mtL_law w Q cs sl 254 (lloc (nI i) none none) [] sg := by
  obtain ⟨hC, hX, hWr, hBs, hXs, hbl, hL, hl0⟩ := id h
  refine V_aload_n hC kL_law_254 rfl ?_
  refine V_aload_n hC kL_law_255 rfl ?_
  refine V_callT hC hX (lw_load hWr hl0 (o := 339) (x := 0) (gg := sg (331 + 1)) (g0 := sg (331 + 1)) hT.rel hT.inv hT.mr hT.tr (c := upd (sg 331) 0 0) (c1 := upd (F_chk sg 331) 4 0) ((pk_un (by decide)).trans hT.n) ((pk_un (by decide)).trans ((chk_un sg 331 (by decide)).trans ((pk_un (by decide)).trans hT.n))) hT.inv) mt_L_load ltL_118 kL_law_256 rfl rfl (Nat.le_of_ble_eq_true rfl) ⟨(Nat.le_of_ble_eq_true rfl), (Nat.le_of_ble_eq_true rfl)⟩ ⟨hcell.1, hcell.2⟩ (fun r w1 g2 hp => PV_post hp) (fun y w1 g2 hp => ?_)
  obtain ⟨k, hk, hw, post, hM, hpost⟩ := pr_load hT (by decide) hB.1 hWr hp
  obtain rfl : y = k := by cases hk; rfl
  have h1 := h.go hw
  have hC1 := h1.1
  refine V_istore hC1 (lloc (nI i) (some (vI y)) none) kL_law_259 rfl (Nat.le_of_ble_eq_true rfl) ?_
  refine V_aload_n hC1 kL_law_261 rfl ?_
  refine V_cM hC1 hM mkX6_load lmL_121 kL_law_262 rfl rfl rfl (Nat.le_of_ble_eq_true rfl) ⟨(Nat.le_of_ble_eq_true rfl), (Nat.le_of_ble_eq_true rfl)⟩ ⟨rfl, rfl⟩ ⟨hcell.1, hcell.2⟩ hpost (fun b g3 hD => ?_)
  exact V_tail h1 ⟨hcell.1, hcell.2⟩ hD kL_law_265 kL_law_267 kL_law_268 kL_law_271 kL_law_273 kL_law_278 kL_law_280 kL_law_283 kL_law_284 kL_law_285 kL_law_286 kL_law_288 kL_law_289 kL_law_290 kL_law_295 (by decide) (fun n3 c3 hT3 => kk _ _ _ _ h1 hT3)
set_option maxHeartbeats 4000000 in
set_option maxRecDepth 100000 in
theorem cs_about (h : LC l p s m args meth c L xs w) {i n c' B : Nat} (hT : T2 0 331 n c' B sg) (hi : i + 7 ≤ L) (hB : 7260 ≤ B ∧ B ≤ 50000) (hcell : cs + 1 ≤ 601024 ∧ sl + 6 ≤ 7293034) (kk : ∀ w1 g3 n c', LC l p s m args meth c L xs w1 → T2 0 331 n c' (B + 60) g3 → V p l e (mRm mtL_law) s m args below meth c mtL_law w1 Q (cs + 1) (sl + 6) 1906 (lloc (nI i) none none) [] g3) : V p l e (mRm mtL_law) s m args below meth c mtL_law w Q cs sl 298 (lloc (nI i) none none) [] sg := by
  obtain ⟨hC, hX, hWr, hBs, hXs, hbl, hL, hl0⟩ := id h
  refine V_aload_n hC kL_law_298 rfl ?_
  refine V_aload_n hC kL_law_299 rfl ?_
  refine V_iload hC kL_law_300 rfl ?_
  refine V_iconst hC (1) kL_law_302 (by decide) ?_
  refine V_iadd hC kL_law_303 ?_
  refine V_xald h kL_law_304 (sc_in (k := 1) hi hL (by decide)) ?_
  refine V_nameI (fun a1 e1 => ?_)
  refine V_aload_n hC kL_law_305 rfl ?_
  refine V_callT hC hX (lw_about hWr hl0 a1 (o := 339) (x := 0) hT.rel hT.inv) mt_L_about ltL_122 kL_law_306 rfl rfl (Nat.le_of_ble_eq_true rfl) ⟨(Nat.le_of_ble_eq_true rfl), (Nat.le_of_ble_eq_true rfl)⟩ ⟨hcell.1, hcell.2⟩ (fun r w1 g2 hp => PW_post hp) (fun y w1 g2 hp => ?_)
  obtain ⟨k, hk, hw, post, hM, hpost⟩ := pr_read hT (by decide) hWr hp (fun v hv => ct_about hv a1 hT.inv)
  obtain rfl : y = k := by cases hk; rfl
  have h1 := h.go hw
  have hC1 := h1.1
  refine V_istore hC1 (lloc (nI i) (some (vI y)) none) kL_law_309 rfl (Nat.le_of_ble_eq_true rfl) ?_
  refine V_aload_n hC1 kL_law_311 rfl ?_
  refine V_aload_n hC1 kL_law_312 rfl ?_
  refine V_iload hC1 kL_law_313 rfl ?_
  refine V_iconst hC1 (1) kL_law_315 (by decide) ?_
  refine V_iadd hC1 kL_law_316 ?_
  refine V_xald h1 kL_law_317 (sc_in (k := 1) hi hL (by decide)) ?_
  rw [← e1]
  refine V_cM hC1 hM mkX6_about lmL_124 kL_law_318 rfl rfl rfl (Nat.le_of_ble_eq_true rfl) ⟨(Nat.le_of_ble_eq_true rfl), (Nat.le_of_ble_eq_true rfl)⟩ ⟨rfl, rfl⟩ ⟨hcell.1, hcell.2⟩ hpost (fun b g3 hD => ?_)
  exact V_tail h1 ⟨hcell.1, hcell.2⟩ hD kL_law_321 kL_law_323 kL_law_324 kL_law_327 kL_law_329 kL_law_334 kL_law_336 kL_law_339 kL_law_340 kL_law_341 kL_law_342 kL_law_344 kL_law_345 kL_law_346 kL_law_351 (by decide) (fun n3 c3 hT3 => kk _ _ _ _ h1 hT3)
set_option maxHeartbeats 4000000 in
set_option maxRecDepth 100000 in
theorem cs_lightOf (h : LC l p s m args meth c L xs w) {i n c' B : Nat} (hT : T2 0 331 n c' B sg) (hi : i + 7 ≤ L) (hB : 7260 ≤ B ∧ B ≤ 50000) (hcell : cs + 1 ≤ 601024 ∧ sl + 6 ≤ 7293034) (kk : ∀ w1 g3 n c', LC l p s m args meth c L xs w1 → T2 0 331 n c' (B + 60) g3 → V p l e (mRm mtL_law) s m args below meth c mtL_law w1 Q (cs + 1) (sl + 6) 1906 (lloc (nI i) none none) [] g3) : V p l e (mRm mtL_law) s m args below meth c mtL_law w Q cs sl 354 (lloc (nI i) none none) [] sg := by
  obtain ⟨hC, hX, hWr, hBs, hXs, hbl, hL, hl0⟩ := id h
  refine V_aload_n hC kL_law_354 rfl ?_
  refine V_aload_n hC kL_law_355 rfl ?_
  refine V_iload hC kL_law_356 rfl ?_
  refine V_iconst hC (1) kL_law_358 (by decide) ?_
  refine V_iadd hC kL_law_359 ?_
  refine V_xald h kL_law_360 (sc_in (k := 1) hi hL (by decide)) ?_
  refine V_nameI (fun a1 e1 => ?_)
  refine V_aload_n hC kL_law_361 rfl ?_
  refine V_iload hC kL_law_362 rfl ?_
  refine V_iconst hC (2) kL_law_364 (by decide) ?_
  refine V_iadd hC kL_law_365 ?_
  refine V_xald h kL_law_366 (sc_in (k := 2) hi hL (by decide)) ?_
  refine V_nameI (fun a2 e2 => ?_)
  refine V_aload_n hC kL_law_367 rfl ?_
  refine V_callT hC hX (lw_lightOf hWr hl0 a1 a2 (o := 339) (x := 0) hT.rel hT.inv) mt_L_lightOf ltL_125 kL_law_368 rfl rfl (Nat.le_of_ble_eq_true rfl) ⟨(Nat.le_of_ble_eq_true rfl), (Nat.le_of_ble_eq_true rfl)⟩ ⟨hcell.1, hcell.2⟩ (fun r w1 g2 hp => PW_post hp) (fun y w1 g2 hp => ?_)
  obtain ⟨k, hk, hw, post, hM, hpost⟩ := pr_read hT (by decide) hWr hp (fun v hv => ct_lightOf hv a1 a2 hT.inv)
  obtain rfl : y = k := by cases hk; rfl
  have h1 := h.go hw
  have hC1 := h1.1
  refine V_istore hC1 (lloc (nI i) (some (vI y)) none) kL_law_371 rfl (Nat.le_of_ble_eq_true rfl) ?_
  refine V_aload_n hC1 kL_law_373 rfl ?_
  refine V_aload_n hC1 kL_law_374 rfl ?_
  refine V_iload hC1 kL_law_375 rfl ?_
  refine V_iconst hC1 (1) kL_law_377 (by decide) ?_
  refine V_iadd hC1 kL_law_378 ?_
  refine V_xald h1 kL_law_379 (sc_in (k := 1) hi hL (by decide)) ?_
  rw [← e1]
  refine V_aload_n hC1 kL_law_380 rfl ?_
  refine V_iload hC1 kL_law_381 rfl ?_
  refine V_iconst hC1 (2) kL_law_383 (by decide) ?_
  refine V_iadd hC1 kL_law_384 ?_
  refine V_xald h1 kL_law_385 (sc_in (k := 2) hi hL (by decide)) ?_
  rw [← e2]
  refine V_cM hC1 hM mkX6_lightOf lmL_128 kL_law_386 rfl rfl rfl (Nat.le_of_ble_eq_true rfl) ⟨(Nat.le_of_ble_eq_true rfl), (Nat.le_of_ble_eq_true rfl)⟩ ⟨rfl, rfl⟩ ⟨hcell.1, hcell.2⟩ hpost (fun b g3 hD => ?_)
  exact V_tail h1 ⟨hcell.1, hcell.2⟩ hD kL_law_389 kL_law_391 kL_law_392 kL_law_395 kL_law_397 kL_law_402 kL_law_404 kL_law_407 kL_law_408 kL_law_409 kL_law_410 kL_law_412 kL_law_413 kL_law_414 kL_law_419 (by decide) (fun n3 c3 hT3 => kk _ _ _ _ h1 hT3)
set_option maxHeartbeats 4000000 in
set_option maxRecDepth 100000 in
theorem cs_boatOf (h : LC l p s m args meth c L xs w) {i n c' B : Nat} (hT : T2 0 331 n c' B sg) (hi : i + 7 ≤ L) (hB : 7260 ≤ B ∧ B ≤ 50000) (hcell : cs + 1 ≤ 601024 ∧ sl + 6 ≤ 7293034) (kk : ∀ w1 g3 n c', LC l p s m args meth c L xs w1 → T2 0 331 n c' (B + 60) g3 → V p l e (mRm mtL_law) s m args below meth c mtL_law w1 Q (cs + 1) (sl + 6) 1906 (lloc (nI i) none none) [] g3) : V p l e (mRm mtL_law) s m args below meth c mtL_law w Q cs sl 422 (lloc (nI i) none none) [] sg := by
  obtain ⟨hC, hX, hWr, hBs, hXs, hbl, hL, hl0⟩ := id h
  refine V_aload_n hC kL_law_422 rfl ?_
  refine V_aload_n hC kL_law_423 rfl ?_
  refine V_iload hC kL_law_424 rfl ?_
  refine V_iconst hC (1) kL_law_426 (by decide) ?_
  refine V_iadd hC kL_law_427 ?_
  refine V_xald h kL_law_428 (sc_in (k := 1) hi hL (by decide)) ?_
  refine V_nameI (fun a1 e1 => ?_)
  refine V_aload_n hC kL_law_429 rfl ?_
  refine V_iload hC kL_law_430 rfl ?_
  refine V_iconst hC (2) kL_law_432 (by decide) ?_
  refine V_iadd hC kL_law_433 ?_
  refine V_xald h kL_law_434 (sc_in (k := 2) hi hL (by decide)) ?_
  refine V_nameI (fun a2 e2 => ?_)
  refine V_aload_n hC kL_law_435 rfl ?_
  refine V_callT hC hX (lw_boatOf hWr hl0 a1 a2 (o := 339) (x := 0) hT.rel hT.inv) mt_L_boatOf ltL_129 kL_law_436 rfl rfl (Nat.le_of_ble_eq_true rfl) ⟨(Nat.le_of_ble_eq_true rfl), (Nat.le_of_ble_eq_true rfl)⟩ ⟨hcell.1, hcell.2⟩ (fun r w1 g2 hp => PW_post hp) (fun y w1 g2 hp => ?_)
  obtain ⟨k, hk, hw, post, hM, hpost⟩ := pr_read hT (by decide) hWr hp (fun v hv => ct_boatOf hv a1 a2 hT.inv)
  obtain rfl : y = k := by cases hk; rfl
  have h1 := h.go hw
  have hC1 := h1.1
  refine V_istore hC1 (lloc (nI i) (some (vI y)) none) kL_law_439 rfl (Nat.le_of_ble_eq_true rfl) ?_
  refine V_aload_n hC1 kL_law_441 rfl ?_
  refine V_aload_n hC1 kL_law_442 rfl ?_
  refine V_iload hC1 kL_law_443 rfl ?_
  refine V_iconst hC1 (1) kL_law_445 (by decide) ?_
  refine V_iadd hC1 kL_law_446 ?_
  refine V_xald h1 kL_law_447 (sc_in (k := 1) hi hL (by decide)) ?_
  rw [← e1]
  refine V_aload_n hC1 kL_law_448 rfl ?_
  refine V_iload hC1 kL_law_449 rfl ?_
  refine V_iconst hC1 (2) kL_law_451 (by decide) ?_
  refine V_iadd hC1 kL_law_452 ?_
  refine V_xald h1 kL_law_453 (sc_in (k := 2) hi hL (by decide)) ?_
  rw [← e2]
  refine V_cM hC1 hM mkX6_boatOf lmL_131 kL_law_454 rfl rfl rfl (Nat.le_of_ble_eq_true rfl) ⟨(Nat.le_of_ble_eq_true rfl), (Nat.le_of_ble_eq_true rfl)⟩ ⟨rfl, rfl⟩ ⟨hcell.1, hcell.2⟩ hpost (fun b g3 hD => ?_)
  exact V_tail h1 ⟨hcell.1, hcell.2⟩ hD kL_law_457 kL_law_459 kL_law_460 kL_law_463 kL_law_465 kL_law_470 kL_law_472 kL_law_475 kL_law_476 kL_law_477 kL_law_478 kL_law_480 kL_law_481 kL_law_482 kL_law_487 (by decide) (fun n3 c3 hT3 => kk _ _ _ _ h1 hT3)
set_option maxHeartbeats 4000000 in
set_option maxRecDepth 100000 in
theorem cs_brightness (h : LC l p s m args meth c L xs w) {i n c' B : Nat} (hT : T2 0 331 n c' B sg) (hi : i + 7 ≤ L) (hB : 7260 ≤ B ∧ B ≤ 50000) (hcell : cs + 1 ≤ 601024 ∧ sl + 6 ≤ 7293034) (kk : ∀ w1 g3 n c', LC l p s m args meth c L xs w1 → T2 0 331 n c' (B + 60) g3 → V p l e (mRm mtL_law) s m args below meth c mtL_law w1 Q (cs + 1) (sl + 6) 1906 (lloc (nI i) none none) [] g3) : V p l e (mRm mtL_law) s m args below meth c mtL_law w Q cs sl 490 (lloc (nI i) none none) [] sg := by
  obtain ⟨hC, hX, hWr, hBs, hXs, hbl, hL, hl0⟩ := id h
  refine V_aload_n hC kL_law_490 rfl ?_
  refine V_aload_n hC kL_law_491 rfl ?_
  refine V_iload hC kL_law_492 rfl ?_
  refine V_iconst hC (1) kL_law_494 (by decide) ?_
  refine V_iadd hC kL_law_495 ?_
  refine V_xald h kL_law_496 (sc_in (k := 1) hi hL (by decide)) ?_
  refine V_nameI (fun a1 e1 => ?_)
  refine V_aload_n hC kL_law_497 rfl ?_
  refine V_iload hC kL_law_498 rfl ?_
  refine V_iconst hC (2) kL_law_500 (by decide) ?_
  refine V_iadd hC kL_law_501 ?_
  refine V_xald h kL_law_502 (sc_in (k := 2) hi hL (by decide)) ?_
  refine V_nameI (fun a2 e2 => ?_)
  refine V_aload_n hC kL_law_503 rfl ?_
  refine V_callT hC hX (lw_brightness hWr hl0 a1 a2 (o := 339) (x := 0) hT.rel hT.inv) mt_L_brightness ltL_132 kL_law_504 rfl rfl (Nat.le_of_ble_eq_true rfl) ⟨(Nat.le_of_ble_eq_true rfl), (Nat.le_of_ble_eq_true rfl)⟩ ⟨hcell.1, hcell.2⟩ (fun r w1 g2 hp => PW_post hp) (fun y w1 g2 hp => ?_)
  obtain ⟨k, hk, hw, post, hM, hpost⟩ := pr_read hT (by decide) hWr hp (fun v hv => ct_brightness hv a1 a2 hT.inv)
  obtain rfl : y = k := by cases hk; rfl
  have h1 := h.go hw
  have hC1 := h1.1
  refine V_istore hC1 (lloc (nI i) (some (vI y)) none) kL_law_507 rfl (Nat.le_of_ble_eq_true rfl) ?_
  refine V_aload_n hC1 kL_law_509 rfl ?_
  refine V_aload_n hC1 kL_law_510 rfl ?_
  refine V_iload hC1 kL_law_511 rfl ?_
  refine V_iconst hC1 (1) kL_law_513 (by decide) ?_
  refine V_iadd hC1 kL_law_514 ?_
  refine V_xald h1 kL_law_515 (sc_in (k := 1) hi hL (by decide)) ?_
  rw [← e1]
  refine V_aload_n hC1 kL_law_516 rfl ?_
  refine V_iload hC1 kL_law_517 rfl ?_
  refine V_iconst hC1 (2) kL_law_519 (by decide) ?_
  refine V_iadd hC1 kL_law_520 ?_
  refine V_xald h1 kL_law_521 (sc_in (k := 2) hi hL (by decide)) ?_
  rw [← e2]
  refine V_cM hC1 hM mkX6_brightness lmL_134 kL_law_522 rfl rfl rfl (Nat.le_of_ble_eq_true rfl) ⟨(Nat.le_of_ble_eq_true rfl), (Nat.le_of_ble_eq_true rfl)⟩ ⟨rfl, rfl⟩ ⟨hcell.1, hcell.2⟩ hpost (fun b g3 hD => ?_)
  exact V_tail h1 ⟨hcell.1, hcell.2⟩ hD kL_law_525 kL_law_527 kL_law_528 kL_law_531 kL_law_533 kL_law_538 kL_law_540 kL_law_543 kL_law_544 kL_law_545 kL_law_546 kL_law_548 kL_law_549 kL_law_550 kL_law_555 (by decide) (fun n3 c3 hT3 => kk _ _ _ _ h1 hT3)
set_option maxHeartbeats 4000000 in
set_option maxRecDepth 100000 in
theorem cs_bestAt (h : LC l p s m args meth c L xs w) {i n c' B : Nat} (hT : T2 0 331 n c' B sg) (hi : i + 7 ≤ L) (hB : 7260 ≤ B ∧ B ≤ 50000) (hcell : cs + 1 ≤ 601024 ∧ sl + 6 ≤ 7293034) (kk : ∀ w1 g3 n c', LC l p s m args meth c L xs w1 → T2 0 331 n c' (B + 60) g3 → V p l e (mRm mtL_law) s m args below meth c mtL_law w1 Q (cs + 1) (sl + 6) 1906 (lloc (nI i) none none) [] g3) : V p l e (mRm mtL_law) s m args below meth c mtL_law w Q cs sl 558 (lloc (nI i) none none) [] sg := by
  obtain ⟨hC, hX, hWr, hBs, hXs, hbl, hL, hl0⟩ := id h
  refine V_aload_n hC kL_law_558 rfl ?_
  refine V_aload_n hC kL_law_559 rfl ?_
  refine V_iload hC kL_law_560 rfl ?_
  refine V_iconst hC (1) kL_law_562 (by decide) ?_
  refine V_iadd hC kL_law_563 ?_
  refine V_xald h kL_law_564 (sc_in (k := 1) hi hL (by decide)) ?_
  refine V_nameI (fun a1 e1 => ?_)
  refine V_aload_n hC kL_law_565 rfl ?_
  refine V_iload hC kL_law_566 rfl ?_
  refine V_iconst hC (2) kL_law_568 (by decide) ?_
  refine V_iadd hC kL_law_569 ?_
  refine V_xald h kL_law_570 (sc_in (k := 2) hi hL (by decide)) ?_
  refine V_nameI (fun a2 e2 => ?_)
  refine V_aload_n hC kL_law_571 rfl ?_
  refine V_callT hC hX (lw_bestAt hWr hl0 a1 a2 (o := 339) (x := 0) hT.rel hT.inv) mt_L_bestAt ltL_135 kL_law_572 rfl rfl (Nat.le_of_ble_eq_true rfl) ⟨(Nat.le_of_ble_eq_true rfl), (Nat.le_of_ble_eq_true rfl)⟩ ⟨hcell.1, hcell.2⟩ (fun r w1 g2 hp => PW_post hp) (fun y w1 g2 hp => ?_)
  obtain ⟨k, hk, hw, post, hM, hpost⟩ := pr_read hT (by decide) hWr hp (fun v hv => ct_bestAt hv a1 a2 hT.inv)
  obtain rfl : y = k := by cases hk; rfl
  have h1 := h.go hw
  have hC1 := h1.1
  refine V_istore hC1 (lloc (nI i) (some (vI y)) none) kL_law_575 rfl (Nat.le_of_ble_eq_true rfl) ?_
  refine V_aload_n hC1 kL_law_577 rfl ?_
  refine V_aload_n hC1 kL_law_578 rfl ?_
  refine V_iload hC1 kL_law_579 rfl ?_
  refine V_iconst hC1 (1) kL_law_581 (by decide) ?_
  refine V_iadd hC1 kL_law_582 ?_
  refine V_xald h1 kL_law_583 (sc_in (k := 1) hi hL (by decide)) ?_
  rw [← e1]
  refine V_aload_n hC1 kL_law_584 rfl ?_
  refine V_iload hC1 kL_law_585 rfl ?_
  refine V_iconst hC1 (2) kL_law_587 (by decide) ?_
  refine V_iadd hC1 kL_law_588 ?_
  refine V_xald h1 kL_law_589 (sc_in (k := 2) hi hL (by decide)) ?_
  rw [← e2]
  refine V_cM hC1 hM mkX6_bestAt lmL_137 kL_law_590 rfl rfl rfl (Nat.le_of_ble_eq_true rfl) ⟨(Nat.le_of_ble_eq_true rfl), (Nat.le_of_ble_eq_true rfl)⟩ ⟨rfl, rfl⟩ ⟨hcell.1, hcell.2⟩ hpost (fun b g3 hD => ?_)
  exact V_tail h1 ⟨hcell.1, hcell.2⟩ hD kL_law_593 kL_law_595 kL_law_596 kL_law_599 kL_law_601 kL_law_606 kL_law_608 kL_law_611 kL_law_612 kL_law_613 kL_law_614 kL_law_616 kL_law_617 kL_law_618 kL_law_623 (by decide) (fun n3 c3 hT3 => kk _ _ _ _ h1 hT3)
set_option maxHeartbeats 4000000 in
set_option maxRecDepth 100000 in
theorem cs_setting (h : LC l p s m args meth c L xs w) {i n c' B : Nat} (hT : T2 0 331 n c' B sg) (hi : i + 7 ≤ L) (hB : 7260 ≤ B ∧ B ≤ 50000) (hcell : cs + 1 ≤ 601024 ∧ sl + 6 ≤ 7293034) (kk : ∀ w1 g3 n c', LC l p s m args meth c L xs w1 → T2 0 331 n c' (B + 60) g3 → V p l e (mRm mtL_law) s m args below meth c mtL_law w1 Q (cs + 1) (sl + 6) 1906 (lloc (nI i) none none) [] g3) : V p l e (mRm mtL_law) s m args below meth c mtL_law w Q cs sl 626 (lloc (nI i) none none) [] sg := by
  obtain ⟨hC, hX, hWr, hBs, hXs, hbl, hL, hl0⟩ := id h
  refine V_aload_n hC kL_law_626 rfl ?_
  refine V_aload_n hC kL_law_627 rfl ?_
  refine V_iload hC kL_law_628 rfl ?_
  refine V_iconst hC (1) kL_law_630 (by decide) ?_
  refine V_iadd hC kL_law_631 ?_
  refine V_xald h kL_law_632 (sc_in (k := 1) hi hL (by decide)) ?_
  refine V_nameI (fun a1 e1 => ?_)
  refine V_aload_n hC kL_law_633 rfl ?_
  refine V_callT hC hX (lw_setting hWr hl0 a1 (o := 339) (x := 0) hT.rel hT.inv) mt_L_setting ltL_138 kL_law_634 rfl rfl (Nat.le_of_ble_eq_true rfl) ⟨(Nat.le_of_ble_eq_true rfl), (Nat.le_of_ble_eq_true rfl)⟩ ⟨hcell.1, hcell.2⟩ (fun r w1 g2 hp => PW_post hp) (fun y w1 g2 hp => ?_)
  obtain ⟨k, hk, hw, post, hM, hpost⟩ := pr_read hT (by decide) hWr hp (fun v hv => ct_setting hv a1)
  obtain rfl : y = k := by cases hk; rfl
  have h1 := h.go hw
  have hC1 := h1.1
  refine V_istore hC1 (lloc (nI i) (some (vI y)) none) kL_law_637 rfl (Nat.le_of_ble_eq_true rfl) ?_
  refine V_aload_n hC1 kL_law_639 rfl ?_
  refine V_aload_n hC1 kL_law_640 rfl ?_
  refine V_iload hC1 kL_law_641 rfl ?_
  refine V_iconst hC1 (1) kL_law_643 (by decide) ?_
  refine V_iadd hC1 kL_law_644 ?_
  refine V_xald h1 kL_law_645 (sc_in (k := 1) hi hL (by decide)) ?_
  rw [← e1]
  refine V_cM hC1 hM mkX6_setting lmL_140 kL_law_646 rfl rfl rfl (Nat.le_of_ble_eq_true rfl) ⟨(Nat.le_of_ble_eq_true rfl), (Nat.le_of_ble_eq_true rfl)⟩ ⟨rfl, rfl⟩ ⟨hcell.1, hcell.2⟩ hpost (fun b g3 hD => ?_)
  exact V_tail h1 ⟨hcell.1, hcell.2⟩ hD kL_law_649 kL_law_651 kL_law_652 kL_law_655 kL_law_657 kL_law_662 kL_law_664 kL_law_667 kL_law_668 kL_law_669 kL_law_670 kL_law_672 kL_law_673 kL_law_674 kL_law_679 (by decide) (fun n3 c3 hT3 => kk _ _ _ _ h1 hT3)
end CASES
