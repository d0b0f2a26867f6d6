/-! the cases of the law's switch: both sides are asked, and answer alike -/
theorem lg_same (x : Int64) : lg_cmp x x = 0 := by
  have h : ¬ x > x := by grind
  unfold lg_cmp
  rw [if_neg h, if_pos rfl]
section
variable {p : Program} {l : Launch} {e : Env} {s : State} {m : MethodId} {args : Array Value} {below : List Frame} {meth : Method} {c : Code} {Q : State → Prop} {g : gE} {A : Nat → Prop}
def LvL (b a1 a2 i : Nat) : List (Option Value) := [some (.ref b), some (.ref a1), some (.ref a2), some (.int (Int32.ofNat i))]
def LGo (p : Program) (l : Launch) (e : Env) (s : State) (m : MethodId) (args : Array Value) (below : List Frame) (meth : Method) (c : Code) (Q : State → Prop) (g : gE) (A : Nat → Prop) (u d : Nat → Nat) (b i pc : Nat) (y : Nat → Nat → Nat) (S M : ST) : Prop := Gm p l e room_1 s m args below meth c Q g A 4 65 952 (wC g u y S ++ wM g d M) (LvL b (u 0) (d 0) i) [] pc
theorem nd_M : va_nd ((List.range 20).map (45 + ·)) = true := by decide +kernel
theorem ln_M {B B2 : va_W} {n : Nat} (h : B2.length = B.length) : ((List.range B.length).map (n + ·)).length = B2.length := by
  rw [List.length_map, List.length_range, h]
theorem law_0 (C : Cx p s m args c g A cL_law 4 wsL_law RL) {b L : Nat} {xs : Nat → Int32} (hX : va_X b L xs s s.heap) (hbl : b < s.heap.size) (hbA : ¬ A b) {i : Nat} (hi : i + 5 ≤ L) (hL : L ≤ 2560) {u d : Nat → Nat} {y : Nat → Nat → Nat} {S M : ST} (R : Rel S M) (kk : ∀ y2 S2 M2, Rel S2 M2 → LGo p l e s m args below meth c Q g A u d b i 1465 y2 S2 M2) : LGo p l e s m args below meth c Q g A u d b i 224 y S M := by
  obtain ⟨r, S2, M2, h1, h2, R2⟩ := o_feed R 0 (xs (i + 1))
  have q1 := k_X3_feed l g u y S (xs (i + 1))
  rw [show f_X3_feed S (xs (i + 1)) = (r, S2) from Option.some.inj h1] at q1
  unfold LGo
  refine g_aload_n C dL_law_224 rfl 225 rfl ?_
  refine g_sarg C hX hbl hbA (i := i) rfl rfl 1 rfl (by omega) hL dL_law_225 dL_law_226 dL_law_227 dL_law_228 dL_law_229 230 rfl ?_
  refine g_callI C (rn_V C q1 (cwV 1 C.1.2.2.2.2 (gdLV wl_89 wl_86 wl_87 wl_88 wl_2) rfl rfl rfl hd_X3_feed ⟨Nat.le_of_ble_eq_true rfl, Nat.le_of_ble_eq_true rfl⟩) 0 rfl rfl _ ap_C1 rg_n rfl rfl (Nat.le_of_ble_eq_true rfl) ⟨Nat.le_of_ble_eq_true rfl, Nat.le_of_ble_eq_true rfl⟩ dL_law_230) (wC g u y S2 ++ wM g d M) (ap_P1 (wC_len.trans wC_len.symm)) (rg_len (wC_len.trans wC_len.symm)) 233 rfl ?_
  refine g_aload_n C dL_law_233 rfl 234 rfl ?_
  refine g_sarg C hX hbl hbA (i := i) rfl rfl 1 rfl (by omega) hL dL_law_234 dL_law_235 dL_law_236 dL_law_237 dL_law_238 239 rfl ?_
  refine g_callI C (rn_V C (k_X4_feed l g d M (xs (i + 1)) (0 + 200) (r, M2) h2) (cwV 1 C.1.2.2.2.2 (gdLV wl_103 wl_100 wl_101 wl_102 wl_5) rfl rfl rfl hd_X4_feed ⟨Nat.le_of_ble_eq_true rfl, Nat.le_of_ble_eq_true rfl⟩) 45 rfl rfl _ (ap_C2 wC_len) nd_M rfl rfl (Nat.le_of_ble_eq_true rfl) ⟨Nat.le_of_ble_eq_true rfl, Nat.le_of_ble_eq_true rfl⟩ dL_law_239) (wC g u y S2 ++ wM g d M2) (ap_P2 wC_len (wM_len.trans wM_len.symm)) (ln_M (wM_len.trans wM_len.symm)) 242 rfl ?_
  exact g_icmp_eqT C dL_law_242 rfl 1465 rfl (kk y S2 M2 R2)
theorem law_1 (C : Cx p s m args c g A cL_law 4 wsL_law RL) {b L : Nat} {xs : Nat → Int32} (hX : va_X b L xs s s.heap) (hbl : b < s.heap.size) (hbA : ¬ A b) {i : Nat} (hi : i + 5 ≤ L) (hL : L ≤ 2560) {u d : Nat → Nat} {y : Nat → Nat → Nat} {S M : ST} (R : Rel S M) (kk : ∀ y2 S2 M2, Rel S2 M2 → LGo p l e s m args below meth c Q g A u d b i 1465 y2 S2 M2) : LGo p l e s m args below meth c Q g A u d b i 247 y S M := by
  obtain ⟨r, y2, S2, M2, h1, h2, R2⟩ := o_kitchen R 0 y
  unfold LGo
  refine g_aload_n C dL_law_247 rfl 248 rfl ?_
  refine g_callI C (rn_V C (k_X3_kitchen l g u y S (0 + 200) (r, y2, S2) h1) (cwV 0 C.1.2.2.2.2 (gdLV wl_115 wl_112 wl_113 wl_114 wl_2) rfl rfl rfl hd_X3_kitchen ⟨Nat.le_of_ble_eq_true rfl, Nat.le_of_ble_eq_true rfl⟩) 0 rfl rfl _ ap_C1 rg_n rfl rfl (Nat.le_of_ble_eq_true rfl) ⟨Nat.le_of_ble_eq_true rfl, Nat.le_of_ble_eq_true rfl⟩ dL_law_248) (wC g u y2 S2 ++ wM g d M) (ap_P1 (wC_len.trans wC_len.symm)) (rg_len (wC_len.trans wC_len.symm)) 251 rfl ?_
  refine g_aload_n C dL_law_251 rfl 252 rfl ?_
  refine g_callI C (rn_V C (k_X4_kitchen l g d M (0 + 200) (r, M2) h2) (cwV 0 C.1.2.2.2.2 (gdLV wl_211 wl_208 wl_209 wl_210 wl_5) rfl rfl rfl hd_X4_kitchen ⟨Nat.le_of_ble_eq_true rfl, Nat.le_of_ble_eq_true rfl⟩) 45 rfl rfl _ (ap_C2 wC_len) nd_M rfl rfl (Nat.le_of_ble_eq_true rfl) ⟨Nat.le_of_ble_eq_true rfl, Nat.le_of_ble_eq_true rfl⟩ dL_law_252) (wC g u y2 S2 ++ wM g d M2) (ap_P2 wC_len (wM_len.trans wM_len.symm)) (ln_M (wM_len.trans wM_len.symm)) 255 rfl ?_
  exact g_icmp_eqT C dL_law_255 rfl 1465 rfl (kk y2 S2 M2 R2)
theorem law_2 (C : Cx p s m args c g A cL_law 4 wsL_law RL) {b L : Nat} {xs : Nat → Int32} (hX : va_X b L xs s s.heap) (hbl : b < s.heap.size) (hbA : ¬ A b) {i : Nat} (hi : i + 5 ≤ L) (hL : L ≤ 2560) {u d : Nat → Nat} {y : Nat → Nat → Nat} {S M : ST} (R : Rel S M) (kk : ∀ y2 S2 M2, Rel S2 M2 → LGo p l e s m args below meth c Q g A u d b i 1465 y2 S2 M2) : LGo p l e s m args below meth c Q g A u d b i 260 y S M := by
  obtain ⟨r, S2, M2, h1, h2, R2⟩ := o_jug R 0 (xs (i + 1)) (xs (i + 2))
  have q1 := k_X3_jug l g u y S (xs (i + 1)) (xs (i + 2))
  rw [show f_X3_jug S (xs (i + 1)) (xs (i + 2)) = (r, S2) from Option.some.inj h1] at q1
  unfold LGo
  refine g_aload_n C dL_law_260 rfl 261 rfl ?_
  refine g_sarg C hX hbl hbA (i := i) rfl rfl 1 rfl (by omega) hL dL_law_261 dL_law_262 dL_law_263 dL_law_264 dL_law_265 266 rfl ?_
  refine g_sarg C hX hbl hbA (i := i) rfl rfl 2 rfl (by omega) hL dL_law_266 dL_law_267 dL_law_268 dL_law_269 dL_law_270 271 rfl ?_
  refine g_callI C (rn_V C q1 (cwV 2 C.1.2.2.2.2 (gdLV wl_300 wl_297 wl_298 wl_299 wl_2) rfl rfl rfl hd_X3_jug ⟨Nat.le_of_ble_eq_true rfl, Nat.le_of_ble_eq_true rfl⟩) 0 rfl rfl _ ap_C1 rg_n rfl rfl (Nat.le_of_ble_eq_true rfl) ⟨Nat.le_of_ble_eq_true rfl, Nat.le_of_ble_eq_true rfl⟩ dL_law_271) (wC g u y S2 ++ wM g d M) (ap_P1 (wC_len.trans wC_len.symm)) (rg_len (wC_len.trans wC_len.symm)) 274 rfl ?_
  refine g_aload_n C dL_law_274 rfl 275 rfl ?_
  refine g_sarg C hX hbl hbA (i := i) rfl rfl 1 rfl (by omega) hL dL_law_275 dL_law_276 dL_law_277 dL_law_278 dL_law_279 280 rfl ?_
  refine g_sarg C hX hbl hbA (i := i) rfl rfl 2 rfl (by omega) hL dL_law_280 dL_law_281 dL_law_282 dL_law_283 dL_law_284 285 rfl ?_
  refine g_callI C (rn_V C (k_X4_jug l g d M (xs (i + 1)) (xs (i + 2)) (0 + 200) (r, M2) h2) (cwV 2 C.1.2.2.2.2 (gdLV wl_307 wl_304 wl_305 wl_306 wl_5) rfl rfl rfl hd_X4_jug ⟨Nat.le_of_ble_eq_true rfl, Nat.le_of_ble_eq_true rfl⟩) 45 rfl rfl _ (ap_C2 wC_len) nd_M rfl rfl (Nat.le_of_ble_eq_true rfl) ⟨Nat.le_of_ble_eq_true rfl, Nat.le_of_ble_eq_true rfl⟩ dL_law_285) (wC g u y S2 ++ wM g d M2) (ap_P2 wC_len (wM_len.trans wM_len.symm)) (ln_M (wM_len.trans wM_len.symm)) 288 rfl ?_
  exact g_icmp_eqT C dL_law_288 rfl 1465 rfl (kk y S2 M2 R2)
theorem law_3 (C : Cx p s m args c g A cL_law 4 wsL_law RL) {b L : Nat} {xs : Nat → Int32} (hX : va_X b L xs s s.heap) (hbl : b < s.heap.size) (hbA : ¬ A b) {i : Nat} (hi : i + 5 ≤ L) (hL : L ≤ 2560) {u d : Nat → Nat} {y : Nat → Nat → Nat} {S M : ST} (R : Rel S M) (kk : ∀ y2 S2 M2, Rel S2 M2 → LGo p l e s m args below meth c Q g A u d b i 1465 y2 S2 M2) : LGo p l e s m args below meth c Q g A u d b i 293 y S M := by
  obtain ⟨r, S2, M2, h1, h2, R2⟩ := o_cold R 0 (xs (i + 1))
  unfold LGo
  refine g_aload_n C dL_law_293 rfl 294 rfl ?_
  refine g_sarg C hX hbl hbA (i := i) rfl rfl 1 rfl (by omega) hL dL_law_294 dL_law_295 dL_law_296 dL_law_297 dL_law_298 299 rfl ?_
  refine g_callI C (rn_V C (k_X3_cold l g u y S (xs (i + 1)) (0 + 200) (r, S2) h1) (cwV 1 C.1.2.2.2.2 (gdLV wl_318 wl_315 wl_316 wl_317 wl_2) rfl rfl rfl hd_X3_cold ⟨Nat.le_of_ble_eq_true rfl, Nat.le_of_ble_eq_true rfl⟩) 0 rfl rfl _ ap_C1 rg_n rfl rfl (Nat.le_of_ble_eq_true rfl) ⟨Nat.le_of_ble_eq_true rfl, Nat.le_of_ble_eq_true rfl⟩ dL_law_299) (wC g u y S2 ++ wM g d M) (ap_P1 (wC_len.trans wC_len.symm)) (rg_len (wC_len.trans wC_len.symm)) 302 rfl ?_
  refine g_aload_n C dL_law_302 rfl 303 rfl ?_
  refine g_sarg C hX hbl hbA (i := i) rfl rfl 1 rfl (by omega) hL dL_law_303 dL_law_304 dL_law_305 dL_law_306 dL_law_307 308 rfl ?_
  refine g_callI C (rn_V C (k_X4_cold l g d M (xs (i + 1)) (0 + 200) (r, M2) h2) (cwV 1 C.1.2.2.2.2 (gdLV wl_325 wl_322 wl_323 wl_324 wl_5) rfl rfl rfl hd_X4_cold ⟨Nat.le_of_ble_eq_true rfl, Nat.le_of_ble_eq_true rfl⟩) 45 rfl rfl _ (ap_C2 wC_len) nd_M rfl rfl (Nat.le_of_ble_eq_true rfl) ⟨Nat.le_of_ble_eq_true rfl, Nat.le_of_ble_eq_true rfl⟩ dL_law_308) (wC g u y S2 ++ wM g d M2) (ap_P2 wC_len (wM_len.trans wM_len.symm)) (ln_M (wM_len.trans wM_len.symm)) 311 rfl ?_
  exact g_icmp_eqT C dL_law_311 rfl 1465 rfl (kk y S2 M2 R2)
theorem law_4 (C : Cx p s m args c g A cL_law 4 wsL_law RL) {b L : Nat} {xs : Nat → Int32} (hX : va_X b L xs s s.heap) (hbl : b < s.heap.size) (hbA : ¬ A b) {i : Nat} (hi : i + 5 ≤ L) (hL : L ≤ 2560) {u d : Nat → Nat} {y : Nat → Nat → Nat} {S M : ST} (R : Rel S M) (kk : ∀ y2 S2 M2, Rel S2 M2 → LGo p l e s m args below meth c Q g A u d b i 1465 y2 S2 M2) : LGo p l e s m args below meth c Q g A u d b i 316 y S M := by
  obtain ⟨r, S2, M2, h1, h2, R2⟩ := o_warm R 0 (xs (i + 1)) (xs (i + 2))
  have q1 := k_X3_warm l g u y S (xs (i + 1)) (xs (i + 2))
  rw [show f_X3_warm S (xs (i + 1)) (xs (i + 2)) = (r, S2) from Option.some.inj h1] at q1
  unfold LGo
  refine g_aload_n C dL_law_316 rfl 317 rfl ?_
  refine g_sarg C hX hbl hbA (i := i) rfl rfl 1 rfl (by omega) hL dL_law_317 dL_law_318 dL_law_319 dL_law_320 dL_law_321 322 rfl ?_
  refine g_sarg C hX hbl hbA (i := i) rfl rfl 2 rfl (by omega) hL dL_law_322 dL_law_323 dL_law_324 dL_law_325 dL_law_326 327 rfl ?_
  refine g_callI C (rn_V C q1 (cwV 2 C.1.2.2.2.2 (gdLV wl_333 wl_330 wl_331 wl_332 wl_2) rfl rfl rfl hd_X3_warm ⟨Nat.le_of_ble_eq_true rfl, Nat.le_of_ble_eq_true rfl⟩) 0 rfl rfl _ ap_C1 rg_n rfl rfl (Nat.le_of_ble_eq_true rfl) ⟨Nat.le_of_ble_eq_true rfl, Nat.le_of_ble_eq_true rfl⟩ dL_law_327) (wC g u y S2 ++ wM g d M) (ap_P1 (wC_len.trans wC_len.symm)) (rg_len (wC_len.trans wC_len.symm)) 330 rfl ?_
  refine g_aload_n C dL_law_330 rfl 331 rfl ?_
  refine g_sarg C hX hbl hbA (i := i) rfl rfl 1 rfl (by omega) hL dL_law_331 dL_law_332 dL_law_333 dL_law_334 dL_law_335 336 rfl ?_
  refine g_sarg C hX hbl hbA (i := i) rfl rfl 2 rfl (by omega) hL dL_law_336 dL_law_337 dL_law_338 dL_law_339 dL_law_340 341 rfl ?_
  refine g_callI C (rn_V C (k_X4_warm l g d M (xs (i + 1)) (xs (i + 2)) (0 + 200) (r, M2) h2) (cwV 2 C.1.2.2.2.2 (gdLV wl_337 wl_334 wl_335 wl_336 wl_5) rfl rfl rfl hd_X4_warm ⟨Nat.le_of_ble_eq_true rfl, Nat.le_of_ble_eq_true rfl⟩) 45 rfl rfl _ (ap_C2 wC_len) nd_M rfl rfl (Nat.le_of_ble_eq_true rfl) ⟨Nat.le_of_ble_eq_true rfl, Nat.le_of_ble_eq_true rfl⟩ dL_law_341) (wC g u y S2 ++ wM g d M2) (ap_P2 wC_len (wM_len.trans wM_len.symm)) (ln_M (wM_len.trans wM_len.symm)) 344 rfl ?_
  exact g_icmp_eqT C dL_law_344 rfl 1465 rfl (kk y S2 M2 R2)
theorem law_5 (C : Cx p s m args c g A cL_law 4 wsL_law RL) {b L : Nat} {xs : Nat → Int32} (hX : va_X b L xs s s.heap) (hbl : b < s.heap.size) (hbA : ¬ A b) {i : Nat} (hi : i + 5 ≤ L) (hL : L ≤ 2560) {u d : Nat → Nat} {y : Nat → Nat → Nat} {S M : ST} (R : Rel S M) (kk : ∀ y2 S2 M2, Rel S2 M2 → LGo p l e s m args below meth c Q g A u d b i 1465 y2 S2 M2) : LGo p l e s m args below meth c Q g A u d b i 349 y S M := by
  obtain ⟨r, S2, M2, h1, h2, R2⟩ := o_hand R 0 (xs (i + 1))
  have q1 := k_X3_hand l g u y S (xs (i + 1))
  rw [show f_X3_hand S (xs (i + 1)) = (r, S2) from Option.some.inj h1] at q1
  unfold LGo
  refine g_aload_n C dL_law_349 rfl 350 rfl ?_
  refine g_sarg C hX hbl hbA (i := i) rfl rfl 1 rfl (by omega) hL dL_law_350 dL_law_351 dL_law_352 dL_law_353 dL_law_354 355 rfl ?_
  refine g_callI C (rn_V C q1 (cwV 1 C.1.2.2.2.2 (gdLV wl_341 wl_338 wl_339 wl_340 wl_2) rfl rfl rfl hd_X3_hand ⟨Nat.le_of_ble_eq_true rfl, Nat.le_of_ble_eq_true rfl⟩) 0 rfl rfl _ ap_C1 rg_n rfl rfl (Nat.le_of_ble_eq_true rfl) ⟨Nat.le_of_ble_eq_true rfl, Nat.le_of_ble_eq_true rfl⟩ dL_law_355) (wC g u y S2 ++ wM g d M) (ap_P1 (wC_len.trans wC_len.symm)) (rg_len (wC_len.trans wC_len.symm)) 358 rfl ?_
  refine g_aload_n C dL_law_358 rfl 359 rfl ?_
  refine g_sarg C hX hbl hbA (i := i) rfl rfl 1 rfl (by omega) hL dL_law_359 dL_law_360 dL_law_361 dL_law_362 dL_law_363 364 rfl ?_
  refine g_callI C (rn_V C (k_X4_hand l g d M (xs (i + 1)) (0 + 200) (r, M2) h2) (cwV 1 C.1.2.2.2.2 (gdLV wl_345 wl_342 wl_343 wl_344 wl_5) rfl rfl rfl hd_X4_hand ⟨Nat.le_of_ble_eq_true rfl, Nat.le_of_ble_eq_true rfl⟩) 45 rfl rfl _ (ap_C2 wC_len) nd_M rfl rfl (Nat.le_of_ble_eq_true rfl) ⟨Nat.le_of_ble_eq_true rfl, Nat.le_of_ble_eq_true rfl⟩ dL_law_364) (wC g u y S2 ++ wM g d M2) (ap_P2 wC_len (wM_len.trans wM_len.symm)) (ln_M (wM_len.trans wM_len.symm)) 367 rfl ?_
  exact g_icmp_eqT C dL_law_367 rfl 1465 rfl (kk y S2 M2 R2)
theorem law_6 (C : Cx p s m args c g A cL_law 4 wsL_law RL) {b L : Nat} {xs : Nat → Int32} (hX : va_X b L xs s s.heap) (hbl : b < s.heap.size) (hbA : ¬ A b) {i : Nat} (hi : i + 5 ≤ L) (hL : L ≤ 2560) {u d : Nat → Nat} {y : Nat → Nat → Nat} {S M : ST} (R : Rel S M) (kk : ∀ y2 S2 M2, Rel S2 M2 → LGo p l e s m args below meth c Q g A u d b i 1465 y2 S2 M2) : LGo p l e s m args below meth c Q g A u d b i 372 y S M := by
  obtain ⟨r, S2, M2, h1, h2, R2⟩ := o_see R 0 (xs (i + 1)) (xs (i + 2))
  have q1 := k_X3_see l g u y S (xs (i + 1)) (xs (i + 2))
  rw [show f_X3_see S (xs (i + 1)) (xs (i + 2)) = (r, S2) from Option.some.inj h1] at q1
  unfold LGo
  refine g_aload_n C dL_law_372 rfl 373 rfl ?_
  refine g_sarg C hX hbl hbA (i := i) rfl rfl 1 rfl (by omega) hL dL_law_373 dL_law_374 dL_law_375 dL_law_376 dL_law_377 378 rfl ?_
  refine g_sarg C hX hbl hbA (i := i) rfl rfl 2 rfl (by omega) hL dL_law_378 dL_law_379 dL_law_380 dL_law_381 dL_law_382 383 rfl ?_
  refine g_callI C (rn_V C q1 (cwV 2 C.1.2.2.2.2 (gdLV wl_349 wl_346 wl_347 wl_348 wl_2) rfl rfl rfl hd_X3_see ⟨Nat.le_of_ble_eq_true rfl, Nat.le_of_ble_eq_true rfl⟩) 0 rfl rfl _ ap_C1 rg_n rfl rfl (Nat.le_of_ble_eq_true rfl) ⟨Nat.le_of_ble_eq_true rfl, Nat.le_of_ble_eq_true rfl⟩ dL_law_383) (wC g u y S2 ++ wM g d M) (ap_P1 (wC_len.trans wC_len.symm)) (rg_len (wC_len.trans wC_len.symm)) 386 rfl ?_
  refine g_aload_n C dL_law_386 rfl 387 rfl ?_
  refine g_sarg C hX hbl hbA (i := i) rfl rfl 1 rfl (by omega) hL dL_law_387 dL_law_388 dL_law_389 dL_law_390 dL_law_391 392 rfl ?_
  refine g_sarg C hX hbl hbA (i := i) rfl rfl 2 rfl (by omega) hL dL_law_392 dL_law_393 dL_law_394 dL_law_395 dL_law_396 397 rfl ?_
  refine g_callI C (rn_V C (k_X4_see l g d M (xs (i + 1)) (xs (i + 2)) (0 + 200) (r, M2) h2) (cwV 2 C.1.2.2.2.2 (gdLV wl_357 wl_354 wl_355 wl_356 wl_5) rfl rfl rfl hd_X4_see ⟨Nat.le_of_ble_eq_true rfl, Nat.le_of_ble_eq_true rfl⟩) 45 rfl rfl _ (ap_C2 wC_len) nd_M rfl rfl (Nat.le_of_ble_eq_true rfl) ⟨Nat.le_of_ble_eq_true rfl, Nat.le_of_ble_eq_true rfl⟩ dL_law_397) (wC g u y S2 ++ wM g d M2) (ap_P2 wC_len (wM_len.trans wM_len.symm)) (ln_M (wM_len.trans wM_len.symm)) 400 rfl ?_
  exact g_icmp_eqT C dL_law_400 rfl 1465 rfl (kk y S2 M2 R2)
theorem law_7 (C : Cx p s m args c g A cL_law 4 wsL_law RL) {b L : Nat} {xs : Nat → Int32} (hX : va_X b L xs s s.heap) (hbl : b < s.heap.size) (hbA : ¬ A b) {i : Nat} (hi : i + 5 ≤ L) (hL : L ≤ 2560) {u d : Nat → Nat} {y : Nat → Nat → Nat} {S M : ST} (R : Rel S M) (kk : ∀ y2 S2 M2, Rel S2 M2 → LGo p l e s m args below meth c Q g A u d b i 1465 y2 S2 M2) : LGo p l e s m args below meth c Q g A u d b i 405 y S M := by
  obtain ⟨r, S2, M2, h1, h2, R2⟩ := o_unsee R 0
  have q1 := k_X3_unsee l g u y S
  rw [show f_X3_unsee S = (r, S2) from Option.some.inj h1] at q1
  unfold LGo
  refine g_aload_n C dL_law_405 rfl 406 rfl ?_
  refine g_callI C (rn_V C q1 (cwV 0 C.1.2.2.2.2 (gdLV wl_364 wl_361 wl_362 wl_363 wl_2) rfl rfl rfl hd_X3_unsee ⟨Nat.le_of_ble_eq_true rfl, Nat.le_of_ble_eq_true rfl⟩) 0 rfl rfl _ ap_C1 rg_n rfl rfl (Nat.le_of_ble_eq_true rfl) ⟨Nat.le_of_ble_eq_true rfl, Nat.le_of_ble_eq_true rfl⟩ dL_law_406) (wC g u y S2 ++ wM g d M) (ap_P1 (wC_len.trans wC_len.symm)) (rg_len (wC_len.trans wC_len.symm)) 409 rfl ?_
  refine g_aload_n C dL_law_409 rfl 410 rfl ?_
  refine g_callI C (rn_V C (k_X4_unsee l g d M (0 + 200) (r, M2) h2) (cwV 0 C.1.2.2.2.2 (gdLV wl_368 wl_365 wl_366 wl_367 wl_5) rfl rfl rfl hd_X4_unsee ⟨Nat.le_of_ble_eq_true rfl, Nat.le_of_ble_eq_true rfl⟩) 45 rfl rfl _ (ap_C2 wC_len) nd_M rfl rfl (Nat.le_of_ble_eq_true rfl) ⟨Nat.le_of_ble_eq_true rfl, Nat.le_of_ble_eq_true rfl⟩ dL_law_410) (wC g u y S2 ++ wM g d M2) (ap_P2 wC_len (wM_len.trans wM_len.symm)) (ln_M (wM_len.trans wM_len.symm)) 413 rfl ?_
  exact g_icmp_eqT C dL_law_413 rfl 1465 rfl (kk y S2 M2 R2)
theorem law_8 (C : Cx p s m args c g A cL_law 4 wsL_law RL) {b L : Nat} {xs : Nat → Int32} (hX : va_X b L xs s s.heap) (hbl : b < s.heap.size) (hbA : ¬ A b) {i : Nat} (hi : i + 5 ≤ L) (hL : L ≤ 2560) {u d : Nat → Nat} {y : Nat → Nat → Nat} {S M : ST} (R : Rel S M) (kk : ∀ y2 S2 M2, Rel S2 M2 → LGo p l e s m args below meth c Q g A u d b i 1465 y2 S2 M2) : LGo p l e s m args below meth c Q g A u d b i 418 y S M := by
  obtain ⟨r, y2, S2, M2, h1, h2, R2⟩ := o_use R 0 y (xs (i + 1))
  unfold LGo
  refine g_aload_n C dL_law_418 rfl 419 rfl ?_
  refine g_sarg C hX hbl hbA (i := i) rfl rfl 1 rfl (by omega) hL dL_law_419 dL_law_420 dL_law_421 dL_law_422 dL_law_423 424 rfl ?_
  refine g_callI C (rn_V C (k_X3_use l g u y S (xs (i + 1)) (0 + 200) (r, y2, S2) h1) (cwV 1 C.1.2.2.2.2 (gdLV wl_372 wl_369 wl_370 wl_371 wl_2) rfl rfl rfl hd_X3_use ⟨Nat.le_of_ble_eq_true rfl, Nat.le_of_ble_eq_true rfl⟩) 0 rfl rfl _ ap_C1 rg_n rfl rfl (Nat.le_of_ble_eq_true rfl) ⟨Nat.le_of_ble_eq_true rfl, Nat.le_of_ble_eq_true rfl⟩ dL_law_424) (wC g u y2 S2 ++ wM g d M) (ap_P1 (wC_len.trans wC_len.symm)) (rg_len (wC_len.trans wC_len.symm)) 427 rfl ?_
  refine g_aload_n C dL_law_427 rfl 428 rfl ?_
  refine g_sarg C hX hbl hbA (i := i) rfl rfl 1 rfl (by omega) hL dL_law_428 dL_law_429 dL_law_430 dL_law_431 dL_law_432 433 rfl ?_
  refine g_callI C (rn_V C (k_X4_use l g d M (xs (i + 1)) (0 + 200) (r, M2) h2) (cwV 1 C.1.2.2.2.2 (gdLV wl_376 wl_373 wl_374 wl_375 wl_5) rfl rfl rfl hd_X4_use ⟨Nat.le_of_ble_eq_true rfl, Nat.le_of_ble_eq_true rfl⟩) 45 rfl rfl _ (ap_C2 wC_len) nd_M rfl rfl (Nat.le_of_ble_eq_true rfl) ⟨Nat.le_of_ble_eq_true rfl, Nat.le_of_ble_eq_true rfl⟩ dL_law_433) (wC g u y2 S2 ++ wM g d M2) (ap_P2 wC_len (wM_len.trans wM_len.symm)) (ln_M (wM_len.trans wM_len.symm)) 436 rfl ?_
  exact g_icmp_eqT C dL_law_436 rfl 1465 rfl (kk y2 S2 M2 R2)
theorem law_9 (C : Cx p s m args c g A cL_law 4 wsL_law RL) {b L : Nat} {xs : Nat → Int32} (hX : va_X b L xs s s.heap) (hbl : b < s.heap.size) (hbA : ¬ A b) {i : Nat} (hi : i + 5 ≤ L) (hL : L ≤ 2560) {u d : Nat → Nat} {y : Nat → Nat → Nat} {S M : ST} (R : Rel S M) (kk : ∀ y2 S2 M2, Rel S2 M2 → LGo p l e s m args below meth c Q g A u d b i 1465 y2 S2 M2) : LGo p l e s m args below meth c Q g A u d b i 441 y S M := by
  obtain ⟨r, S2, M2, h1, h2, R2⟩ := o_cost R 0 (xs (i + 1)) (xs (i + 2))
  have q1 := k_X3_cost l g u y S (xs (i + 1)) (xs (i + 2))
  rw [show f_X3_cost S (xs (i + 1)) (xs (i + 2)) = (r, S2) from Option.some.inj h1] at q1
  unfold LGo
  refine g_aload_n C dL_law_441 rfl 442 rfl ?_
  refine g_sarg C hX hbl hbA (i := i) rfl rfl 1 rfl (by omega) hL dL_law_442 dL_law_443 dL_law_444 dL_law_445 dL_law_446 447 rfl ?_
  refine g_sarg C hX hbl hbA (i := i) rfl rfl 2 rfl (by omega) hL dL_law_447 dL_law_448 dL_law_449 dL_law_450 dL_law_451 452 rfl ?_
  refine g_callI C (rn_V C q1 (cwV 2 C.1.2.2.2.2 (gdLV wl_380 wl_377 wl_378 wl_379 wl_2) rfl rfl rfl hd_X3_cost ⟨Nat.le_of_ble_eq_true rfl, Nat.le_of_ble_eq_true rfl⟩) 0 rfl rfl _ ap_C1 rg_n rfl rfl (Nat.le_of_ble_eq_true rfl) ⟨Nat.le_of_ble_eq_true rfl, Nat.le_of_ble_eq_true rfl⟩ dL_law_452) (wC g u y S2 ++ wM g d M) (ap_P1 (wC_len.trans wC_len.symm)) (rg_len (wC_len.trans wC_len.symm)) 455 rfl ?_
  refine g_aload_n C dL_law_455 rfl 456 rfl ?_
  refine g_sarg C hX hbl hbA (i := i) rfl rfl 1 rfl (by omega) hL dL_law_456 dL_law_457 dL_law_458 dL_law_459 dL_law_460 461 rfl ?_
  refine g_sarg C hX hbl hbA (i := i) rfl rfl 2 rfl (by omega) hL dL_law_461 dL_law_462 dL_law_463 dL_law_464 dL_law_465 466 rfl ?_
  refine g_callI C (rn_V C (k_X4_cost l g d M (xs (i + 1)) (xs (i + 2)) (0 + 200) (r, M2) h2) (cwV 2 C.1.2.2.2.2 (gdLV wl_387 wl_384 wl_385 wl_386 wl_5) rfl rfl rfl hd_X4_cost ⟨Nat.le_of_ble_eq_true rfl, Nat.le_of_ble_eq_true rfl⟩) 45 rfl rfl _ (ap_C2 wC_len) nd_M rfl rfl (Nat.le_of_ble_eq_true rfl) ⟨Nat.le_of_ble_eq_true rfl, Nat.le_of_ble_eq_true rfl⟩ dL_law_466) (wC g u y S2 ++ wM g d M2) (ap_P2 wC_len (wM_len.trans wM_len.symm)) (ln_M (wM_len.trans wM_len.symm)) 469 rfl ?_
  exact g_icmp_eqT C dL_law_469 rfl 1465 rfl (kk y S2 M2 R2)
theorem law_10 (C : Cx p s m args c g A cL_law 4 wsL_law RL) {b L : Nat} {xs : Nat → Int32} (hX : va_X b L xs s s.heap) (hbl : b < s.heap.size) (hbA : ¬ A b) {i : Nat} (hi : i + 5 ≤ L) (hL : L ≤ 2560) {u d : Nat → Nat} {y : Nat → Nat → Nat} {S M : ST} (R : Rel S M) (kk : ∀ y2 S2 M2, Rel S2 M2 → LGo p l e s m args below meth c Q g A u d b i 1465 y2 S2 M2) : LGo p l e s m args below meth c Q g A u d b i 474 y S M := by
  obtain ⟨r, S2, M2, h1, h2, R2⟩ := o_price R 0 (xs (i + 1))
  have q1 := k_X3_price l g u y S (xs (i + 1))
  rw [show f_X3_price S (xs (i + 1)) = (r, S2) from Option.some.inj h1] at q1
  unfold LGo
  refine g_aload_n C dL_law_474 rfl 475 rfl ?_
  refine g_sarg C hX hbl hbA (i := i) rfl rfl 1 rfl (by omega) hL dL_law_475 dL_law_476 dL_law_477 dL_law_478 dL_law_479 480 rfl ?_
  refine g_callI C (rn_V C q1 (cwV 1 C.1.2.2.2.2 (gdLV wl_391 wl_388 wl_389 wl_390 wl_2) rfl rfl rfl hd_X3_price ⟨Nat.le_of_ble_eq_true rfl, Nat.le_of_ble_eq_true rfl⟩) 0 rfl rfl _ ap_C1 rg_n rfl rfl (Nat.le_of_ble_eq_true rfl) ⟨Nat.le_of_ble_eq_true rfl, Nat.le_of_ble_eq_true rfl⟩ dL_law_480) (wC g u y S2 ++ wM g d M) (ap_P1 (wC_len.trans wC_len.symm)) (rg_len (wC_len.trans wC_len.symm)) 483 rfl ?_
  refine g_aload_n C dL_law_483 rfl 484 rfl ?_
  refine g_sarg C hX hbl hbA (i := i) rfl rfl 1 rfl (by omega) hL dL_law_484 dL_law_485 dL_law_486 dL_law_487 dL_law_488 489 rfl ?_
  refine g_callI C (rn_V C (k_X4_price l g d M (xs (i + 1)) (0 + 200) (r, M2) h2) (cwV 1 C.1.2.2.2.2 (gdLV wl_395 wl_392 wl_393 wl_394 wl_5) rfl rfl rfl hd_X4_price ⟨Nat.le_of_ble_eq_true rfl, Nat.le_of_ble_eq_true rfl⟩) 45 rfl rfl _ (ap_C2 wC_len) nd_M rfl rfl (Nat.le_of_ble_eq_true rfl) ⟨Nat.le_of_ble_eq_true rfl, Nat.le_of_ble_eq_true rfl⟩ dL_law_489) (wC g u y S2 ++ wM g d M2) (ap_P2 wC_len (wM_len.trans wM_len.symm)) (ln_M (wM_len.trans wM_len.symm)) 492 rfl ?_
  exact g_icmp_eqT C dL_law_492 rfl 1465 rfl (kk y S2 M2 R2)
theorem law_11 (C : Cx p s m args c g A cL_law 4 wsL_law RL) {b L : Nat} {xs : Nat → Int32} (hX : va_X b L xs s s.heap) (hbl : b < s.heap.size) (hbA : ¬ A b) {i : Nat} (hi : i + 5 ≤ L) (hL : L ≤ 2560) {u d : Nat → Nat} {y : Nat → Nat → Nat} {S M : ST} (R : Rel S M) (kk : ∀ y2 S2 M2, Rel S2 M2 → LGo p l e s m args below meth c Q g A u d b i 1465 y2 S2 M2) : LGo p l e s m args below meth c Q g A u d b i 497 y S M := by
  obtain ⟨r, S2, M2, h1, h2, R2⟩ := o_says R 0 (xs (i + 1)) (xs (i + 2))
  unfold LGo
  refine g_aload_n C dL_law_497 rfl 498 rfl ?_
  refine g_sarg C hX hbl hbA (i := i) rfl rfl 1 rfl (by omega) hL dL_law_498 dL_law_499 dL_law_500 dL_law_501 dL_law_502 503 rfl ?_
  refine g_sarg C hX hbl hbA (i := i) rfl rfl 2 rfl (by omega) hL dL_law_503 dL_law_504 dL_law_505 dL_law_506 dL_law_507 508 rfl ?_
  refine g_callI C (rn_V C (k_X3_says l g u y S (xs (i + 1)) (xs (i + 2)) (0 + 200) (r, S2) h1) (cwV 2 C.1.2.2.2.2 (gdLV wl_399 wl_396 wl_397 wl_398 wl_2) rfl rfl rfl hd_X3_says ⟨Nat.le_of_ble_eq_true rfl, Nat.le_of_ble_eq_true rfl⟩) 0 rfl rfl _ ap_C1 rg_n rfl rfl (Nat.le_of_ble_eq_true rfl) ⟨Nat.le_of_ble_eq_true rfl, Nat.le_of_ble_eq_true rfl⟩ dL_law_508) (wC g u y S2 ++ wM g d M) (ap_P1 (wC_len.trans wC_len.symm)) (rg_len (wC_len.trans wC_len.symm)) 511 rfl ?_
  refine g_aload_n C dL_law_511 rfl 512 rfl ?_
  refine g_sarg C hX hbl hbA (i := i) rfl rfl 1 rfl (by omega) hL dL_law_512 dL_law_513 dL_law_514 dL_law_515 dL_law_516 517 rfl ?_
  refine g_sarg C hX hbl hbA (i := i) rfl rfl 2 rfl (by omega) hL dL_law_517 dL_law_518 dL_law_519 dL_law_520 dL_law_521 522 rfl ?_
  refine g_callI C (rn_V C (k_X4_says l g d M (xs (i + 1)) (xs (i + 2)) (0 + 200) (r, M2) h2) (cwV 2 C.1.2.2.2.2 (gdLV wl_432 wl_429 wl_430 wl_431 wl_5) rfl rfl rfl hd_X4_says ⟨Nat.le_of_ble_eq_true rfl, Nat.le_of_ble_eq_true rfl⟩) 45 rfl rfl _ (ap_C2 wC_len) nd_M rfl rfl (Nat.le_of_ble_eq_true rfl) ⟨Nat.le_of_ble_eq_true rfl, Nat.le_of_ble_eq_true rfl⟩ dL_law_522) (wC g u y S2 ++ wM g d M2) (ap_P2 wC_len (wM_len.trans wM_len.symm)) (ln_M (wM_len.trans wM_len.symm)) 525 rfl ?_
  exact g_icmp_eqT C dL_law_525 rfl 1465 rfl (kk y S2 M2 R2)
theorem law_12 (C : Cx p s m args c g A cL_law 4 wsL_law RL) {b L : Nat} {xs : Nat → Int32} (hX : va_X b L xs s s.heap) (hbl : b < s.heap.size) (hbA : ¬ A b) {i : Nat} (hi : i + 5 ≤ L) (hL : L ≤ 2560) {u d : Nat → Nat} {y : Nat → Nat → Nat} {S M : ST} (R : Rel S M) (kk : ∀ y2 S2 M2, Rel S2 M2 → LGo p l e s m args below meth c Q g A u d b i 1465 y2 S2 M2) : LGo p l e s m args below meth c Q g A u d b i 530 y S M := by
  obtain ⟨r, S2, M2, h1, h2, R2⟩ := o_thought R 0 (xs (i + 1))
  unfold LGo
  refine g_aload_n C dL_law_530 rfl 531 rfl ?_
  refine g_sarg C hX hbl hbA (i := i) rfl rfl 1 rfl (by omega) hL dL_law_531 dL_law_532 dL_law_533 dL_law_534 dL_law_535 536 rfl ?_
  refine g_callL C (rn_V C (k_X3_thought l g u y S (xs (i + 1)) (0 + 200) (r, S2) h1) (cwV 1 C.1.2.2.2.2 (gdLV wl_449 wl_446 wl_447 wl_448 wl_2) rfl rfl rfl hd_X3_thought ⟨Nat.le_of_ble_eq_true rfl, Nat.le_of_ble_eq_true rfl⟩) 0 rfl rfl _ ap_C1 rg_n rfl rfl (Nat.le_of_ble_eq_true rfl) ⟨Nat.le_of_ble_eq_true rfl, Nat.le_of_ble_eq_true rfl⟩ dL_law_536) (wC g u y S2 ++ wM g d M) (ap_P1 (wC_len.trans wC_len.symm)) (rg_len (wC_len.trans wC_len.symm)) 539 rfl ?_
  refine g_aload_n C dL_law_539 rfl 540 rfl ?_
  refine g_sarg C hX hbl hbA (i := i) rfl rfl 1 rfl (by omega) hL dL_law_540 dL_law_541 dL_law_542 dL_law_543 dL_law_544 545 rfl ?_
  refine g_callL C (rn_V C (k_X4_thought l g d M (xs (i + 1)) (0 + 200) (r, M2) h2) (cwV 1 C.1.2.2.2.2 (gdLV wl_458 wl_455 wl_456 wl_457 wl_5) rfl rfl rfl hd_X4_thought ⟨Nat.le_of_ble_eq_true rfl, Nat.le_of_ble_eq_true rfl⟩) 45 rfl rfl _ (ap_C2 wC_len) nd_M rfl rfl (Nat.le_of_ble_eq_true rfl) ⟨Nat.le_of_ble_eq_true rfl, Nat.le_of_ble_eq_true rfl⟩ dL_law_545) (wC g u y S2 ++ wM g d M2) (ap_P2 wC_len (wM_len.trans wM_len.symm)) (ln_M (wM_len.trans wM_len.symm)) 548 rfl ?_
  refine g_lcmp C dL_law_548 549 rfl ?_
  exact g_if_eqT C dL_law_549 (lg_same r) 1465 rfl (kk y S2 M2 R2)
theorem law_13 (C : Cx p s m args c g A cL_law 4 wsL_law RL) {b L : Nat} {xs : Nat → Int32} (hX : va_X b L xs s s.heap) (hbl : b < s.heap.size) (hbA : ¬ A b) {i : Nat} (hi : i + 5 ≤ L) (hL : L ≤ 2560) {u d : Nat → Nat} {y : Nat → Nat → Nat} {S M : ST} (R : Rel S M) (kk : ∀ y2 S2 M2, Rel S2 M2 → LGo p l e s m args below meth c Q g A u d b i 1465 y2 S2 M2) : LGo p l e s m args below meth c Q g A u d b i 554 y S M := by
  obtain ⟨r, S2, M2, h1, h2, R2⟩ := o_likely R 0 (xs (i + 1)) (xs (i + 2))
  unfold LGo
  refine g_aload_n C dL_law_554 rfl 555 rfl ?_
  refine g_sarg C hX hbl hbA (i := i) rfl rfl 1 rfl (by omega) hL dL_law_555 dL_law_556 dL_law_557 dL_law_558 dL_law_559 560 rfl ?_
  refine g_sarg C hX hbl hbA (i := i) rfl rfl 2 rfl (by omega) hL dL_law_560 dL_law_561 dL_law_562 dL_law_563 dL_law_564 565 rfl ?_
  refine g_callL C (rn_V C (k_X3_likely l g u y S (xs (i + 1)) (xs (i + 2)) (0 + 200) (r, S2) h1) (cwV 2 C.1.2.2.2.2 (gdLV wl_475 wl_472 wl_473 wl_474 wl_2) rfl rfl rfl hd_X3_likely ⟨Nat.le_of_ble_eq_true rfl, Nat.le_of_ble_eq_true rfl⟩) 0 rfl rfl _ ap_C1 rg_n rfl rfl (Nat.le_of_ble_eq_true rfl) ⟨Nat.le_of_ble_eq_true rfl, Nat.le_of_ble_eq_true rfl⟩ dL_law_565) (wC g u y S2 ++ wM g d M) (ap_P1 (wC_len.trans wC_len.symm)) (rg_len (wC_len.trans wC_len.symm)) 568 rfl ?_
  refine g_aload_n C dL_law_568 rfl 569 rfl ?_
  refine g_sarg C hX hbl hbA (i := i) rfl rfl 1 rfl (by omega) hL dL_law_569 dL_law_570 dL_law_571 dL_law_572 dL_law_573 574 rfl ?_
  refine g_sarg C hX hbl hbA (i := i) rfl rfl 2 rfl (by omega) hL dL_law_574 dL_law_575 dL_law_576 dL_law_577 dL_law_578 579 rfl ?_
  refine g_callL C (rn_V C (k_X4_likely l g d M (xs (i + 1)) (xs (i + 2)) (0 + 200) (r, M2) h2) (cwV 2 C.1.2.2.2.2 (gdLV wl_488 wl_485 wl_486 wl_487 wl_5) rfl rfl rfl hd_X4_likely ⟨Nat.le_of_ble_eq_true rfl, Nat.le_of_ble_eq_true rfl⟩) 45 rfl rfl _ (ap_C2 wC_len) nd_M rfl rfl (Nat.le_of_ble_eq_true rfl) ⟨Nat.le_of_ble_eq_true rfl, Nat.le_of_ble_eq_true rfl⟩ dL_law_579) (wC g u y S2 ++ wM g d M2) (ap_P2 wC_len (wM_len.trans wM_len.symm)) (ln_M (wM_len.trans wM_len.symm)) 582 rfl ?_
  refine g_lcmp C dL_law_582 583 rfl ?_
  exact g_if_eqT C dL_law_583 (lg_same r) 1465 rfl (kk y S2 M2 R2)
theorem law_14 (C : Cx p s m args c g A cL_law 4 wsL_law RL) {b L : Nat} {xs : Nat → Int32} (hX : va_X b L xs s s.heap) (hbl : b < s.heap.size) (hbA : ¬ A b) {i : Nat} (hi : i + 5 ≤ L) (hL : L ≤ 2560) {u d : Nat → Nat} {y : Nat → Nat → Nat} {S M : ST} (R : Rel S M) (kk : ∀ y2 S2 M2, Rel S2 M2 → LGo p l e s m args below meth c Q g A u d b i 1465 y2 S2 M2) : LGo p l e s m args below meth c Q g A u d b i 588 y S M := by
  obtain ⟨r, S2, M2, h1, h2, R2⟩ := o_good R 0 (xs (i + 1))
  unfold LGo
  refine g_aload_n C dL_law_588 rfl 589 rfl ?_
  refine g_sarg C hX hbl hbA (i := i) rfl rfl 1 rfl (by omega) hL dL_law_589 dL_law_590 dL_law_591 dL_law_592 dL_law_593 594 rfl ?_
  refine g_callL C (rn_V C (k_X3_good l g u y S (xs (i + 1)) (0 + 200) (r, S2) h1) (cwV 1 C.1.2.2.2.2 (gdLV wl_502 wl_499 wl_500 wl_501 wl_2) rfl rfl rfl hd_X3_good ⟨Nat.le_of_ble_eq_true rfl, Nat.le_of_ble_eq_true rfl⟩) 0 rfl rfl _ ap_C1 rg_n rfl rfl (Nat.le_of_ble_eq_true rfl) ⟨Nat.le_of_ble_eq_true rfl, Nat.le_of_ble_eq_true rfl⟩ dL_law_594) (wC g u y S2 ++ wM g d M) (ap_P1 (wC_len.trans wC_len.symm)) (rg_len (wC_len.trans wC_len.symm)) 597 rfl ?_
  refine g_aload_n C dL_law_597 rfl 598 rfl ?_
  refine g_sarg C hX hbl hbA (i := i) rfl rfl 1 rfl (by omega) hL dL_law_598 dL_law_599 dL_law_600 dL_law_601 dL_law_602 603 rfl ?_
  refine g_callL C (rn_V C (k_X4_good l g d M (xs (i + 1)) (0 + 200) (r, M2) h2) (cwV 1 C.1.2.2.2.2 (gdLV wl_506 wl_503 wl_504 wl_505 wl_5) rfl rfl rfl hd_X4_good ⟨Nat.le_of_ble_eq_true rfl, Nat.le_of_ble_eq_true rfl⟩) 45 rfl rfl _ (ap_C2 wC_len) nd_M rfl rfl (Nat.le_of_ble_eq_true rfl) ⟨Nat.le_of_ble_eq_true rfl, Nat.le_of_ble_eq_true rfl⟩ dL_law_603) (wC g u y S2 ++ wM g d M2) (ap_P2 wC_len (wM_len.trans wM_len.symm)) (ln_M (wM_len.trans wM_len.symm)) 606 rfl ?_
  refine g_lcmp C dL_law_606 607 rfl ?_
  exact g_if_eqT C dL_law_607 (lg_same r) 1465 rfl (kk y S2 M2 R2)
theorem law_15 (C : Cx p s m args c g A cL_law 4 wsL_law RL) {b L : Nat} {xs : Nat → Int32} (hX : va_X b L xs s s.heap) (hbl : b < s.heap.size) (hbA : ¬ A b) {i : Nat} (hi : i + 5 ≤ L) (hL : L ≤ 2560) {u d : Nat → Nat} {y : Nat → Nat → Nat} {S M : ST} (R : Rel S M) (kk : ∀ y2 S2 M2, Rel S2 M2 → LGo p l e s m args below meth c Q g A u d b i 1465 y2 S2 M2) : LGo p l e s m args below meth c Q g A u d b i 612 y S M := by
  obtain ⟨r, S2, M2, h1, h2, R2⟩ := o_mean R 0 (xs (i + 1)) (xs (i + 2)) (xs (i + 3))
  unfold LGo
  refine g_aload_n C dL_law_612 rfl 613 rfl ?_
  refine g_sarg C hX hbl hbA (i := i) rfl rfl 1 rfl (by omega) hL dL_law_613 dL_law_614 dL_law_615 dL_law_616 dL_law_617 618 rfl ?_
  refine g_sarg C hX hbl hbA (i := i) rfl rfl 2 rfl (by omega) hL dL_law_618 dL_law_619 dL_law_620 dL_law_621 dL_law_622 623 rfl ?_
  refine g_sarg C hX hbl hbA (i := i) rfl rfl 3 rfl (by omega) hL dL_law_623 dL_law_624 dL_law_625 dL_law_626 dL_law_627 628 rfl ?_
  refine g_callL C (rn_V C (k_X3_mean l g u y S (xs (i + 1)) (xs (i + 2)) (xs (i + 3)) (0 + 200) (r, S2) h1) (cwV 3 C.1.2.2.2.2 (gdLV wl_510 wl_507 wl_508 wl_509 wl_2) rfl rfl rfl hd_X3_mean ⟨Nat.le_of_ble_eq_true rfl, Nat.le_of_ble_eq_true rfl⟩) 0 rfl rfl _ ap_C1 rg_n rfl rfl (Nat.le_of_ble_eq_true rfl) ⟨Nat.le_of_ble_eq_true rfl, Nat.le_of_ble_eq_true rfl⟩ dL_law_628) (wC g u y S2 ++ wM g d M) (ap_P1 (wC_len.trans wC_len.symm)) (rg_len (wC_len.trans wC_len.symm)) 631 rfl ?_
  refine g_aload_n C dL_law_631 rfl 632 rfl ?_
  refine g_sarg C hX hbl hbA (i := i) rfl rfl 1 rfl (by omega) hL dL_law_632 dL_law_633 dL_law_634 dL_law_635 dL_law_636 637 rfl ?_
  refine g_sarg C hX hbl hbA (i := i) rfl rfl 2 rfl (by omega) hL dL_law_637 dL_law_638 dL_law_639 dL_law_640 dL_law_641 642 rfl ?_
  refine g_sarg C hX hbl hbA (i := i) rfl rfl 3 rfl (by omega) hL dL_law_642 dL_law_643 dL_law_644 dL_law_645 dL_law_646 647 rfl ?_
  refine g_callL C (rn_V C (k_X4_mean l g d M (xs (i + 1)) (xs (i + 2)) (xs (i + 3)) (0 + 200) (r, M2) h2) (cwV 3 C.1.2.2.2.2 (gdLV wl_521 wl_518 wl_519 wl_520 wl_5) rfl rfl rfl hd_X4_mean ⟨Nat.le_of_ble_eq_true rfl, Nat.le_of_ble_eq_true rfl⟩) 45 rfl rfl _ (ap_C2 wC_len) nd_M rfl rfl (Nat.le_of_ble_eq_true rfl) ⟨Nat.le_of_ble_eq_true rfl, Nat.le_of_ble_eq_true rfl⟩ dL_law_647) (wC g u y S2 ++ wM g d M2) (ap_P2 wC_len (wM_len.trans wM_len.symm)) (ln_M (wM_len.trans wM_len.symm)) 650 rfl ?_
  refine g_lcmp C dL_law_650 651 rfl ?_
  exact g_if_eqT C dL_law_651 (lg_same r) 1465 rfl (kk y S2 M2 R2)
theorem law_16 (C : Cx p s m args c g A cL_law 4 wsL_law RL) {b L : Nat} {xs : Nat → Int32} (hX : va_X b L xs s s.heap) (hbl : b < s.heap.size) (hbA : ¬ A b) {i : Nat} (hi : i + 5 ≤ L) (hL : L ≤ 2560) {u d : Nat → Nat} {y : Nat → Nat → Nat} {S M : ST} (R : Rel S M) (kk : ∀ y2 S2 M2, Rel S2 M2 → LGo p l e s m args below meth c Q g A u d b i 1465 y2 S2 M2) : LGo p l e s m args below meth c Q g A u d b i 656 y S M := by
  obtain ⟨r, S2, M2, h1, h2, R2⟩ := o_best R 0 (xs (i + 1))
  unfold LGo
  refine g_aload_n C dL_law_656 rfl 657 rfl ?_
  refine g_sarg C hX hbl hbA (i := i) rfl rfl 1 rfl (by omega) hL dL_law_657 dL_law_658 dL_law_659 dL_law_660 dL_law_661 662 rfl ?_
  refine g_callI C (rn_V C (k_X3_best l g u y S (xs (i + 1)) (0 + 200) (r, S2) h1) (cwV 1 C.1.2.2.2.2 (gdLV wl_546 wl_543 wl_544 wl_545 wl_2) rfl rfl rfl hd_X3_best ⟨Nat.le_of_ble_eq_true rfl, Nat.le_of_ble_eq_true rfl⟩) 0 rfl rfl _ ap_C1 rg_n rfl rfl (Nat.le_of_ble_eq_true rfl) ⟨Nat.le_of_ble_eq_true rfl, Nat.le_of_ble_eq_true rfl⟩ dL_law_662) (wC g u y S2 ++ wM g d M) (ap_P1 (wC_len.trans wC_len.symm)) (rg_len (wC_len.trans wC_len.symm)) 665 rfl ?_
  refine g_aload_n C dL_law_665 rfl 666 rfl ?_
  refine g_sarg C hX hbl hbA (i := i) rfl rfl 1 rfl (by omega) hL dL_law_666 dL_law_667 dL_law_668 dL_law_669 dL_law_670 671 rfl ?_
  refine g_callI C (rn_V C (k_X4_best l g d M (xs (i + 1)) (0 + 200) (r, M2) h2) (cwV 1 C.1.2.2.2.2 (gdLV wl_554 wl_551 wl_552 wl_553 wl_5) rfl rfl rfl hd_X4_best ⟨Nat.le_of_ble_eq_true rfl, Nat.le_of_ble_eq_true rfl⟩) 45 rfl rfl _ (ap_C2 wC_len) nd_M rfl rfl (Nat.le_of_ble_eq_true rfl) ⟨Nat.le_of_ble_eq_true rfl, Nat.le_of_ble_eq_true rfl⟩ dL_law_671) (wC g u y S2 ++ wM g d M2) (ap_P2 wC_len (wM_len.trans wM_len.symm)) (ln_M (wM_len.trans wM_len.symm)) 674 rfl ?_
  exact g_icmp_eqT C dL_law_674 rfl 1465 rfl (kk y S2 M2 R2)
theorem law_17 (C : Cx p s m args c g A cL_law 4 wsL_law RL) {b L : Nat} {xs : Nat → Int32} (hX : va_X b L xs s s.heap) (hbl : b < s.heap.size) (hbA : ¬ A b) {i : Nat} (hi : i + 5 ≤ L) (hL : L ≤ 2560) {u d : Nat → Nat} {y : Nat → Nat → Nat} {S M : ST} (R : Rel S M) (kk : ∀ y2 S2 M2, Rel S2 M2 → LGo p l e s m args below meth c Q g A u d b i 1465 y2 S2 M2) : LGo p l e s m args below meth c Q g A u d b i 679 y S M := by
  obtain ⟨r, S2, M2, h1, h2, R2⟩ := o_sure R 0 (xs (i + 1))
  unfold LGo
  refine g_aload_n C dL_law_679 rfl 680 rfl ?_
  refine g_sarg C hX hbl hbA (i := i) rfl rfl 1 rfl (by omega) hL dL_law_680 dL_law_681 dL_law_682 dL_law_683 dL_law_684 685 rfl ?_
  refine g_callI C (rn_V C (k_X3_sure l g u y S (xs (i + 1)) (0 + 200) (r, S2) h1) (cwV 1 C.1.2.2.2.2 (gdLV wl_566 wl_563 wl_564 wl_565 wl_2) rfl rfl rfl hd_X3_sure ⟨Nat.le_of_ble_eq_true rfl, Nat.le_of_ble_eq_true rfl⟩) 0 rfl rfl _ ap_C1 rg_n rfl rfl (Nat.le_of_ble_eq_true rfl) ⟨Nat.le_of_ble_eq_true rfl, Nat.le_of_ble_eq_true rfl⟩ dL_law_685) (wC g u y S2 ++ wM g d M) (ap_P1 (wC_len.trans wC_len.symm)) (rg_len (wC_len.trans wC_len.symm)) 688 rfl ?_
  refine g_aload_n C dL_law_688 rfl 689 rfl ?_
  refine g_sarg C hX hbl hbA (i := i) rfl rfl 1 rfl (by omega) hL dL_law_689 dL_law_690 dL_law_691 dL_law_692 dL_law_693 694 rfl ?_
  refine g_callI C (rn_V C (k_X4_sure l g d M (xs (i + 1)) (0 + 200) (r, M2) h2) (cwV 1 C.1.2.2.2.2 (gdLV wl_577 wl_574 wl_575 wl_576 wl_5) rfl rfl rfl hd_X4_sure ⟨Nat.le_of_ble_eq_true rfl, Nat.le_of_ble_eq_true rfl⟩) 45 rfl rfl _ (ap_C2 wC_len) nd_M rfl rfl (Nat.le_of_ble_eq_true rfl) ⟨Nat.le_of_ble_eq_true rfl, Nat.le_of_ble_eq_true rfl⟩ dL_law_694) (wC g u y S2 ++ wM g d M2) (ap_P2 wC_len (wM_len.trans wM_len.symm)) (ln_M (wM_len.trans wM_len.symm)) 697 rfl ?_
  exact g_icmp_eqT C dL_law_697 rfl 1465 rfl (kk y S2 M2 R2)
theorem law_18 (C : Cx p s m args c g A cL_law 4 wsL_law RL) {b L : Nat} {xs : Nat → Int32} (hX : va_X b L xs s s.heap) (hbl : b < s.heap.size) (hbA : ¬ A b) {i : Nat} (hi : i + 5 ≤ L) (hL : L ≤ 2560) {u d : Nat → Nat} {y : Nat → Nat → Nat} {S M : ST} (R : Rel S M) (kk : ∀ y2 S2 M2, Rel S2 M2 → LGo p l e s m args below meth c Q g A u d b i 1465 y2 S2 M2) : LGo p l e s m args below meth c Q g A u d b i 702 y S M := by
  obtain ⟨r, S2, M2, h1, h2, R2⟩ := o_looking R 0 (xs (i + 1)) (xs (i + 2)) (xs (i + 3))
  unfold LGo
  refine g_aload_n C dL_law_702 rfl 703 rfl ?_
  refine g_sarg C hX hbl hbA (i := i) rfl rfl 1 rfl (by omega) hL dL_law_703 dL_law_704 dL_law_705 dL_law_706 dL_law_707 708 rfl ?_
  refine g_sarg C hX hbl hbA (i := i) rfl rfl 2 rfl (by omega) hL dL_law_708 dL_law_709 dL_law_710 dL_law_711 dL_law_712 713 rfl ?_
  refine g_sarg C hX hbl hbA (i := i) rfl rfl 3 rfl (by omega) hL dL_law_713 dL_law_714 dL_law_715 dL_law_716 dL_law_717 718 rfl ?_
  refine g_callL C (rn_V C (k_X3_looking l g u y S (xs (i + 1)) (xs (i + 2)) (xs (i + 3)) (0 + 200) (r, S2) h1) (cwV 3 C.1.2.2.2.2 (gdLV wl_585 wl_582 wl_583 wl_584 wl_2) rfl rfl rfl hd_X3_looking ⟨Nat.le_of_ble_eq_true rfl, Nat.le_of_ble_eq_true rfl⟩) 0 rfl rfl _ ap_C1 rg_n rfl rfl (Nat.le_of_ble_eq_true rfl) ⟨Nat.le_of_ble_eq_true rfl, Nat.le_of_ble_eq_true rfl⟩ dL_law_718) (wC g u y S2 ++ wM g d M) (ap_P1 (wC_len.trans wC_len.symm)) (rg_len (wC_len.trans wC_len.symm)) 721 rfl ?_
  refine g_aload_n C dL_law_721 rfl 722 rfl ?_
  refine g_sarg C hX hbl hbA (i := i) rfl rfl 1 rfl (by omega) hL dL_law_722 dL_law_723 dL_law_724 dL_law_725 dL_law_726 727 rfl ?_
  refine g_sarg C hX hbl hbA (i := i) rfl rfl 2 rfl (by omega) hL dL_law_727 dL_law_728 dL_law_729 dL_law_730 dL_law_731 732 rfl ?_
  refine g_sarg C hX hbl hbA (i := i) rfl rfl 3 rfl (by omega) hL dL_law_732 dL_law_733 dL_law_734 dL_law_735 dL_law_736 737 rfl ?_
  refine g_callL C (rn_V C (k_X4_looking l g d M (xs (i + 1)) (xs (i + 2)) (xs (i + 3)) (0 + 200) (r, M2) h2) (cwV 3 C.1.2.2.2.2 (gdLV wl_600 wl_597 wl_598 wl_599 wl_5) rfl rfl rfl hd_X4_looking ⟨Nat.le_of_ble_eq_true rfl, Nat.le_of_ble_eq_true rfl⟩) 45 rfl rfl _ (ap_C2 wC_len) nd_M rfl rfl (Nat.le_of_ble_eq_true rfl) ⟨Nat.le_of_ble_eq_true rfl, Nat.le_of_ble_eq_true rfl⟩ dL_law_737) (wC g u y S2 ++ wM g d M2) (ap_P2 wC_len (wM_len.trans wM_len.symm)) (ln_M (wM_len.trans wM_len.symm)) 740 rfl ?_
  refine g_lcmp C dL_law_740 741 rfl ?_
  exact g_if_eqT C dL_law_741 (lg_same r) 1465 rfl (kk y S2 M2 R2)
theorem law_19 (C : Cx p s m args c g A cL_law 4 wsL_law RL) {b L : Nat} {xs : Nat → Int32} (hX : va_X b L xs s s.heap) (hbl : b < s.heap.size) (hbA : ¬ A b) {i : Nat} (hi : i + 5 ≤ L) (hL : L ≤ 2560) {u d : Nat → Nat} {y : Nat → Nat → Nat} {S M : ST} (R : Rel S M) (kk : ∀ y2 S2 M2, Rel S2 M2 → LGo p l e s m args below meth c Q g A u d b i 1465 y2 S2 M2) : LGo p l e s m args below meth c Q g A u d b i 746 y S M := by
  obtain ⟨r, S2, M2, h1, h2, R2⟩ := o_bestTest R 0 (xs (i + 1))
  unfold LGo
  refine g_aload_n C dL_law_746 rfl 747 rfl ?_
  refine g_sarg C hX hbl hbA (i := i) rfl rfl 1 rfl (by omega) hL dL_law_747 dL_law_748 dL_law_749 dL_law_750 dL_law_751 752 rfl ?_
  refine g_callI C (rn_V C (k_X3_bestTest l g u y S (xs (i + 1)) (0 + 200) (r, S2) h1) (cwV 1 C.1.2.2.2.2 (gdLV wl_621 wl_618 wl_619 wl_620 wl_2) rfl rfl rfl hd_X3_bestTest ⟨Nat.le_of_ble_eq_true rfl, Nat.le_of_ble_eq_true rfl⟩) 0 rfl rfl _ ap_C1 rg_n rfl rfl (Nat.le_of_ble_eq_true rfl) ⟨Nat.le_of_ble_eq_true rfl, Nat.le_of_ble_eq_true rfl⟩ dL_law_752) (wC g u y S2 ++ wM g d M) (ap_P1 (wC_len.trans wC_len.symm)) (rg_len (wC_len.trans wC_len.symm)) 755 rfl ?_
  refine g_aload_n C dL_law_755 rfl 756 rfl ?_
  refine g_sarg C hX hbl hbA (i := i) rfl rfl 1 rfl (by omega) hL dL_law_756 dL_law_757 dL_law_758 dL_law_759 dL_law_760 761 rfl ?_
  refine g_callI C (rn_V C (k_X4_bestTest l g d M (xs (i + 1)) (0 + 200) (r, M2) h2) (cwV 1 C.1.2.2.2.2 (gdLV wl_625 wl_622 wl_623 wl_624 wl_5) rfl rfl rfl hd_X4_bestTest ⟨Nat.le_of_ble_eq_true rfl, Nat.le_of_ble_eq_true rfl⟩) 45 rfl rfl _ (ap_C2 wC_len) nd_M rfl rfl (Nat.le_of_ble_eq_true rfl) ⟨Nat.le_of_ble_eq_true rfl, Nat.le_of_ble_eq_true rfl⟩ dL_law_761) (wC g u y S2 ++ wM g d M2) (ap_P2 wC_len (wM_len.trans wM_len.symm)) (ln_M (wM_len.trans wM_len.symm)) 764 rfl ?_
  exact g_icmp_eqT C dL_law_764 rfl 1465 rfl (kk y S2 M2 R2)
theorem law_20 (C : Cx p s m args c g A cL_law 4 wsL_law RL) {b L : Nat} {xs : Nat → Int32} (hX : va_X b L xs s s.heap) (hbl : b < s.heap.size) (hbA : ¬ A b) {i : Nat} (hi : i + 5 ≤ L) (hL : L ≤ 2560) {u d : Nat → Nat} {y : Nat → Nat → Nat} {S M : ST} (R : Rel S M) (kk : ∀ y2 S2 M2, Rel S2 M2 → LGo p l e s m args below meth c Q g A u d b i 1465 y2 S2 M2) : LGo p l e s m args below meth c Q g A u d b i 769 y S M := by
  obtain ⟨r, S2, M2, h1, h2, R2⟩ := o_two R 0 (xs (i + 1))
  unfold LGo
  refine g_aload_n C dL_law_769 rfl 770 rfl ?_
  refine g_sarg C hX hbl hbA (i := i) rfl rfl 1 rfl (by omega) hL dL_law_770 dL_law_771 dL_law_772 dL_law_773 dL_law_774 775 rfl ?_
  refine g_callI C (rn_V C (k_X3_two l g u y S (xs (i + 1)) (0 + 200) (r, S2) h1) (cwV 1 C.1.2.2.2.2 (gdLV wl_629 wl_626 wl_627 wl_628 wl_2) rfl rfl rfl hd_X3_two ⟨Nat.le_of_ble_eq_true rfl, Nat.le_of_ble_eq_true rfl⟩) 0 rfl rfl _ ap_C1 rg_n rfl rfl (Nat.le_of_ble_eq_true rfl) ⟨Nat.le_of_ble_eq_true rfl, Nat.le_of_ble_eq_true rfl⟩ dL_law_775) (wC g u y S2 ++ wM g d M) (ap_P1 (wC_len.trans wC_len.symm)) (rg_len (wC_len.trans wC_len.symm)) 778 rfl ?_
  refine g_aload_n C dL_law_778 rfl 779 rfl ?_
  refine g_sarg C hX hbl hbA (i := i) rfl rfl 1 rfl (by omega) hL dL_law_779 dL_law_780 dL_law_781 dL_law_782 dL_law_783 784 rfl ?_
  refine g_callI C (rn_V C (k_X4_two l g d M (xs (i + 1)) (0 + 200) (r, M2) h2) (cwV 1 C.1.2.2.2.2 (gdLV wl_637 wl_634 wl_635 wl_636 wl_5) rfl rfl rfl hd_X4_two ⟨Nat.le_of_ble_eq_true rfl, Nat.le_of_ble_eq_true rfl⟩) 45 rfl rfl _ (ap_C2 wC_len) nd_M rfl rfl (Nat.le_of_ble_eq_true rfl) ⟨Nat.le_of_ble_eq_true rfl, Nat.le_of_ble_eq_true rfl⟩ dL_law_784) (wC g u y S2 ++ wM g d M2) (ap_P2 wC_len (wM_len.trans wM_len.symm)) (ln_M (wM_len.trans wM_len.symm)) 787 rfl ?_
  exact g_icmp_eqT C dL_law_787 rfl 1465 rfl (kk y S2 M2 R2)
theorem law_21 (C : Cx p s m args c g A cL_law 4 wsL_law RL) {b L : Nat} {xs : Nat → Int32} (hX : va_X b L xs s s.heap) (hbl : b < s.heap.size) (hbA : ¬ A b) {i : Nat} (hi : i + 5 ≤ L) (hL : L ≤ 2560) {u d : Nat → Nat} {y : Nat → Nat → Nat} {S M : ST} (R : Rel S M) (kk : ∀ y2 S2 M2, Rel S2 M2 → LGo p l e s m args below meth c Q g A u d b i 1465 y2 S2 M2) : LGo p l e s m args below meth c Q g A u d b i 792 y S M := by
  obtain ⟨r, S2, M2, h1, h2, R2⟩ := o_twoWorth R 0 (xs (i + 1)) (xs (i + 2))
  unfold LGo
  refine g_aload_n C dL_law_792 rfl 793 rfl ?_
  refine g_sarg C hX hbl hbA (i := i) rfl rfl 1 rfl (by omega) hL dL_law_793 dL_law_794 dL_law_795 dL_law_796 dL_law_797 798 rfl ?_
  refine g_sarg C hX hbl hbA (i := i) rfl rfl 2 rfl (by omega) hL dL_law_798 dL_law_799 dL_law_800 dL_law_801 dL_law_802 803 rfl ?_
  refine g_callL C (rn_V C (k_X3_twoWorth l g u y S (xs (i + 1)) (xs (i + 2)) (0 + 200) (r, S2) h1) (cwV 2 C.1.2.2.2.2 (gdLV wl_654 wl_651 wl_652 wl_653 wl_2) rfl rfl rfl hd_X3_twoWorth ⟨Nat.le_of_ble_eq_true rfl, Nat.le_of_ble_eq_true rfl⟩) 0 rfl rfl _ ap_C1 rg_n rfl rfl (Nat.le_of_ble_eq_true rfl) ⟨Nat.le_of_ble_eq_true rfl, Nat.le_of_ble_eq_true rfl⟩ dL_law_803) (wC g u y S2 ++ wM g d M) (ap_P1 (wC_len.trans wC_len.symm)) (rg_len (wC_len.trans wC_len.symm)) 806 rfl ?_
  refine g_aload_n C dL_law_806 rfl 807 rfl ?_
  refine g_sarg C hX hbl hbA (i := i) rfl rfl 1 rfl (by omega) hL dL_law_807 dL_law_808 dL_law_809 dL_law_810 dL_law_811 812 rfl ?_
  refine g_sarg C hX hbl hbA (i := i) rfl rfl 2 rfl (by omega) hL dL_law_812 dL_law_813 dL_law_814 dL_law_815 dL_law_816 817 rfl ?_
  refine g_callL C (rn_V C (k_X4_twoWorth l g d M (xs (i + 1)) (xs (i + 2)) (0 + 200) (r, M2) h2) (cwV 2 C.1.2.2.2.2 (gdLV wl_660 wl_657 wl_658 wl_659 wl_5) rfl rfl rfl hd_X4_twoWorth ⟨Nat.le_of_ble_eq_true rfl, Nat.le_of_ble_eq_true rfl⟩) 45 rfl rfl _ (ap_C2 wC_len) nd_M rfl rfl (Nat.le_of_ble_eq_true rfl) ⟨Nat.le_of_ble_eq_true rfl, Nat.le_of_ble_eq_true rfl⟩ dL_law_817) (wC g u y S2 ++ wM g d M2) (ap_P2 wC_len (wM_len.trans wM_len.symm)) (ln_M (wM_len.trans wM_len.symm)) 820 rfl ?_
  refine g_lcmp C dL_law_820 821 rfl ?_
  exact g_if_eqT C dL_law_821 (lg_same r) 1465 rfl (kk y S2 M2 R2)
theorem law_22 (C : Cx p s m args c g A cL_law 4 wsL_law RL) {b L : Nat} {xs : Nat → Int32} (hX : va_X b L xs s s.heap) (hbl : b < s.heap.size) (hbA : ¬ A b) {i : Nat} (hi : i + 5 ≤ L) (hL : L ≤ 2560) {u d : Nat → Nat} {y : Nat → Nat → Nat} {S M : ST} (R : Rel S M) (kk : ∀ y2 S2 M2, Rel S2 M2 → LGo p l e s m args below meth c Q g A u d b i 1465 y2 S2 M2) : LGo p l e s m args below meth c Q g A u d b i 826 y S M := by
  obtain ⟨r, S2, M2, h1, h2, R2⟩ := o_free R 0 (xs (i + 1))
  unfold LGo
  refine g_aload_n C dL_law_826 rfl 827 rfl ?_
  refine g_sarg C hX hbl hbA (i := i) rfl rfl 1 rfl (by omega) hL dL_law_827 dL_law_828 dL_law_829 dL_law_830 dL_law_831 832 rfl ?_
  refine g_callI C (rn_V C (k_X3_free l g u y S (xs (i + 1)) (0 + 200) (r, S2) h1) (cwV 1 C.1.2.2.2.2 (gdLV wl_668 wl_665 wl_666 wl_667 wl_2) rfl rfl rfl hd_X3_free ⟨Nat.le_of_ble_eq_true rfl, Nat.le_of_ble_eq_true rfl⟩) 0 rfl rfl _ ap_C1 rg_n rfl rfl (Nat.le_of_ble_eq_true rfl) ⟨Nat.le_of_ble_eq_true rfl, Nat.le_of_ble_eq_true rfl⟩ dL_law_832) (wC g u y S2 ++ wM g d M) (ap_P1 (wC_len.trans wC_len.symm)) (rg_len (wC_len.trans wC_len.symm)) 835 rfl ?_
  refine g_aload_n C dL_law_835 rfl 836 rfl ?_
  refine g_sarg C hX hbl hbA (i := i) rfl rfl 1 rfl (by omega) hL dL_law_836 dL_law_837 dL_law_838 dL_law_839 dL_law_840 841 rfl ?_
  refine g_callI C (rn_V C (k_X4_free l g d M (xs (i + 1)) (0 + 200) (r, M2) h2) (cwV 1 C.1.2.2.2.2 (gdLV wl_676 wl_673 wl_674 wl_675 wl_5) rfl rfl rfl hd_X4_free ⟨Nat.le_of_ble_eq_true rfl, Nat.le_of_ble_eq_true rfl⟩) 45 rfl rfl _ (ap_C2 wC_len) nd_M rfl rfl (Nat.le_of_ble_eq_true rfl) ⟨Nat.le_of_ble_eq_true rfl, Nat.le_of_ble_eq_true rfl⟩ dL_law_841) (wC g u y S2 ++ wM g d M2) (ap_P2 wC_len (wM_len.trans wM_len.symm)) (ln_M (wM_len.trans wM_len.symm)) 844 rfl ?_
  exact g_icmp_eqT C dL_law_844 rfl 1465 rfl (kk y S2 M2 R2)
theorem law_23 (C : Cx p s m args c g A cL_law 4 wsL_law RL) {b L : Nat} {xs : Nat → Int32} (hX : va_X b L xs s s.heap) (hbl : b < s.heap.size) (hbA : ¬ A b) {i : Nat} (hi : i + 5 ≤ L) (hL : L ≤ 2560) {u d : Nat → Nat} {y : Nat → Nat → Nat} {S M : ST} (R : Rel S M) (kk : ∀ y2 S2 M2, Rel S2 M2 → LGo p l e s m args below meth c Q g A u d b i 1465 y2 S2 M2) : LGo p l e s m args below meth c Q g A u d b i 849 y S M := by
  obtain ⟨r, S2, M2, h1, h2, R2⟩ := o_freeWorth R 0 (xs (i + 1)) (xs (i + 2))
  unfold LGo
  refine g_aload_n C dL_law_849 rfl 850 rfl ?_
  refine g_sarg C hX hbl hbA (i := i) rfl rfl 1 rfl (by omega) hL dL_law_850 dL_law_851 dL_law_852 dL_law_853 dL_law_854 855 rfl ?_
  refine g_sarg C hX hbl hbA (i := i) rfl rfl 2 rfl (by omega) hL dL_law_855 dL_law_856 dL_law_857 dL_law_858 dL_law_859 860 rfl ?_
  refine g_callL C (rn_V C (k_X3_freeWorth l g u y S (xs (i + 1)) (xs (i + 2)) (0 + 200) (r, S2) h1) (cwV 2 C.1.2.2.2.2 (gdLV wl_692 wl_689 wl_690 wl_691 wl_2) rfl rfl rfl hd_X3_freeWorth ⟨Nat.le_of_ble_eq_true rfl, Nat.le_of_ble_eq_true rfl⟩) 0 rfl rfl _ ap_C1 rg_n rfl rfl (Nat.le_of_ble_eq_true rfl) ⟨Nat.le_of_ble_eq_true rfl, Nat.le_of_ble_eq_true rfl⟩ dL_law_860) (wC g u y S2 ++ wM g d M) (ap_P1 (wC_len.trans wC_len.symm)) (rg_len (wC_len.trans wC_len.symm)) 863 rfl ?_
  refine g_aload_n C dL_law_863 rfl 864 rfl ?_
  refine g_sarg C hX hbl hbA (i := i) rfl rfl 1 rfl (by omega) hL dL_law_864 dL_law_865 dL_law_866 dL_law_867 dL_law_868 869 rfl ?_
  refine g_sarg C hX hbl hbA (i := i) rfl rfl 2 rfl (by omega) hL dL_law_869 dL_law_870 dL_law_871 dL_law_872 dL_law_873 874 rfl ?_
  refine g_callL C (rn_V C (k_X4_freeWorth l g d M (xs (i + 1)) (xs (i + 2)) (0 + 200) (r, M2) h2) (cwV 2 C.1.2.2.2.2 (gdLV wl_696 wl_693 wl_694 wl_695 wl_5) rfl rfl rfl hd_X4_freeWorth ⟨Nat.le_of_ble_eq_true rfl, Nat.le_of_ble_eq_true rfl⟩) 45 rfl rfl _ (ap_C2 wC_len) nd_M rfl rfl (Nat.le_of_ble_eq_true rfl) ⟨Nat.le_of_ble_eq_true rfl, Nat.le_of_ble_eq_true rfl⟩ dL_law_874) (wC g u y S2 ++ wM g d M2) (ap_P2 wC_len (wM_len.trans wM_len.symm)) (ln_M (wM_len.trans wM_len.symm)) 877 rfl ?_
  refine g_lcmp C dL_law_877 878 rfl ?_
  exact g_if_eqT C dL_law_878 (lg_same r) 1465 rfl (kk y S2 M2 R2)
theorem law_24 (C : Cx p s m args c g A cL_law 4 wsL_law RL) {b L : Nat} {xs : Nat → Int32} (hX : va_X b L xs s s.heap) (hbl : b < s.heap.size) (hbA : ¬ A b) {i : Nat} (hi : i + 5 ≤ L) (hL : L ≤ 2560) {u d : Nat → Nat} {y : Nat → Nat → Nat} {S M : ST} (R : Rel S M) (kk : ∀ y2 S2 M2, Rel S2 M2 → LGo p l e s m args below meth c Q g A u d b i 1465 y2 S2 M2) : LGo p l e s m args below meth c Q g A u d b i 883 y S M := by
  obtain ⟨r, S2, M2, h1, h2, R2⟩ := o_useless R 0 (xs (i + 1))
  unfold LGo
  refine g_aload_n C dL_law_883 rfl 884 rfl ?_
  refine g_sarg C hX hbl hbA (i := i) rfl rfl 1 rfl (by omega) hL dL_law_884 dL_law_885 dL_law_886 dL_law_887 dL_law_888 889 rfl ?_
  refine g_callI C (rn_V C (k_X3_useless l g u y S (xs (i + 1)) (0 + 200) (r, S2) h1) (cwV 1 C.1.2.2.2.2 (gdLV wl_700 wl_697 wl_698 wl_699 wl_2) rfl rfl rfl hd_X3_useless ⟨Nat.le_of_ble_eq_true rfl, Nat.le_of_ble_eq_true rfl⟩) 0 rfl rfl _ ap_C1 rg_n rfl rfl (Nat.le_of_ble_eq_true rfl) ⟨Nat.le_of_ble_eq_true rfl, Nat.le_of_ble_eq_true rfl⟩ dL_law_889) (wC g u y S2 ++ wM g d M) (ap_P1 (wC_len.trans wC_len.symm)) (rg_len (wC_len.trans wC_len.symm)) 892 rfl ?_
  refine g_aload_n C dL_law_892 rfl 893 rfl ?_
  refine g_sarg C hX hbl hbA (i := i) rfl rfl 1 rfl (by omega) hL dL_law_893 dL_law_894 dL_law_895 dL_law_896 dL_law_897 898 rfl ?_
  refine g_callI C (rn_V C (k_X4_useless l g d M (xs (i + 1)) (0 + 200) (r, M2) h2) (cwV 1 C.1.2.2.2.2 (gdLV wl_708 wl_705 wl_706 wl_707 wl_5) rfl rfl rfl hd_X4_useless ⟨Nat.le_of_ble_eq_true rfl, Nat.le_of_ble_eq_true rfl⟩) 45 rfl rfl _ (ap_C2 wC_len) nd_M rfl rfl (Nat.le_of_ble_eq_true rfl) ⟨Nat.le_of_ble_eq_true rfl, Nat.le_of_ble_eq_true rfl⟩ dL_law_898) (wC g u y S2 ++ wM g d M2) (ap_P2 wC_len (wM_len.trans wM_len.symm)) (ln_M (wM_len.trans wM_len.symm)) 901 rfl ?_
  exact g_icmp_eqT C dL_law_901 rfl 1465 rfl (kk y S2 M2 R2)
theorem law_25 (C : Cx p s m args c g A cL_law 4 wsL_law RL) {b L : Nat} {xs : Nat → Int32} (hX : va_X b L xs s s.heap) (hbl : b < s.heap.size) (hbA : ¬ A b) {i : Nat} (hi : i + 5 ≤ L) (hL : L ≤ 2560) {u d : Nat → Nat} {y : Nat → Nat → Nat} {S M : ST} (R : Rel S M) (kk : ∀ y2 S2 M2, Rel S2 M2 → LGo p l e s m args below meth c Q g A u d b i 1465 y2 S2 M2) : LGo p l e s m args below meth c Q g A u d b i 906 y S M := by
  obtain ⟨r, S2, M2, h1, h2, R2⟩ := o_person R 0 (xs (i + 1))
  have q1 := k_X3_person l g u y S (xs (i + 1))
  rw [show f_X3_person S (xs (i + 1)) = (r, S2) from Option.some.inj h1] at q1
  unfold LGo
  refine g_aload_n C dL_law_906 rfl 907 rfl ?_
  refine g_sarg C hX hbl hbA (i := i) rfl rfl 1 rfl (by omega) hL dL_law_907 dL_law_908 dL_law_909 dL_law_910 dL_law_911 912 rfl ?_
  refine g_callI C (rn_V C q1 (cwV 1 C.1.2.2.2.2 (gdLV wl_712 wl_709 wl_710 wl_711 wl_2) rfl rfl rfl hd_X3_person ⟨Nat.le_of_ble_eq_true rfl, Nat.le_of_ble_eq_true rfl⟩) 0 rfl rfl _ ap_C1 rg_n rfl rfl (Nat.le_of_ble_eq_true rfl) ⟨Nat.le_of_ble_eq_true rfl, Nat.le_of_ble_eq_true rfl⟩ dL_law_912) (wC g u y S2 ++ wM g d M) (ap_P1 (wC_len.trans wC_len.symm)) (rg_len (wC_len.trans wC_len.symm)) 915 rfl ?_
  refine g_aload_n C dL_law_915 rfl 916 rfl ?_
  refine g_sarg C hX hbl hbA (i := i) rfl rfl 1 rfl (by omega) hL dL_law_916 dL_law_917 dL_law_918 dL_law_919 dL_law_920 921 rfl ?_
  refine g_callI C (rn_V C (k_X4_person l g d M (xs (i + 1)) (0 + 200) (r, M2) h2) (cwV 1 C.1.2.2.2.2 (gdLV wl_719 wl_716 wl_717 wl_718 wl_5) rfl rfl rfl hd_X4_person ⟨Nat.le_of_ble_eq_true rfl, Nat.le_of_ble_eq_true rfl⟩) 45 rfl rfl _ (ap_C2 wC_len) nd_M rfl rfl (Nat.le_of_ble_eq_true rfl) ⟨Nat.le_of_ble_eq_true rfl, Nat.le_of_ble_eq_true rfl⟩ dL_law_921) (wC g u y S2 ++ wM g d M2) (ap_P2 wC_len (wM_len.trans wM_len.symm)) (ln_M (wM_len.trans wM_len.symm)) 924 rfl ?_
  exact g_icmp_eqT C dL_law_924 rfl 1465 rfl (kk y S2 M2 R2)
theorem law_26 (C : Cx p s m args c g A cL_law 4 wsL_law RL) {b L : Nat} {xs : Nat → Int32} (hX : va_X b L xs s s.heap) (hbl : b < s.heap.size) (hbA : ¬ A b) {i : Nat} (hi : i + 5 ≤ L) (hL : L ≤ 2560) {u d : Nat → Nat} {y : Nat → Nat → Nat} {S M : ST} (R : Rel S M) (kk : ∀ y2 S2 M2, Rel S2 M2 → LGo p l e s m args below meth c Q g A u d b i 1465 y2 S2 M2) : LGo p l e s m args below meth c Q g A u d b i 929 y S M := by
  obtain ⟨r, S2, M2, h1, h2, R2⟩ := o_nobody R
  have q1 := k_X3_nobody l g u y S
  rw [show f_X3_nobody S = (r, S2) from Option.some.inj h1] at q1
  have q2 := k_X4_nobody l g d M
  rw [show f_X4_nobody M = (r, M2) from Option.some.inj h2] at q2
  unfold LGo
  refine g_aload_n C dL_law_929 rfl 930 rfl ?_
  refine g_callI C (rn_V C q1 (cwV 0 C.1.2.2.2.2 (gdLV wl_723 wl_720 wl_721 wl_722 wl_2) rfl rfl rfl hd_X3_nobody ⟨Nat.le_of_ble_eq_true rfl, Nat.le_of_ble_eq_true rfl⟩) 0 rfl rfl _ ap_C1 rg_n rfl rfl (Nat.le_of_ble_eq_true rfl) ⟨Nat.le_of_ble_eq_true rfl, Nat.le_of_ble_eq_true rfl⟩ dL_law_930) (wC g u y S2 ++ wM g d M) (ap_P1 (wC_len.trans wC_len.symm)) (rg_len (wC_len.trans wC_len.symm)) 933 rfl ?_
  refine g_aload_n C dL_law_933 rfl 934 rfl ?_
  refine g_callI C (rn_V C q2 (cwV 0 C.1.2.2.2.2 (gdLV wl_727 wl_724 wl_725 wl_726 wl_5) rfl rfl rfl hd_X4_nobody ⟨Nat.le_of_ble_eq_true rfl, Nat.le_of_ble_eq_true rfl⟩) 45 rfl rfl _ (ap_C2 wC_len) nd_M rfl rfl (Nat.le_of_ble_eq_true rfl) ⟨Nat.le_of_ble_eq_true rfl, Nat.le_of_ble_eq_true rfl⟩ dL_law_934) (wC g u y S2 ++ wM g d M2) (ap_P2 wC_len (wM_len.trans wM_len.symm)) (ln_M (wM_len.trans wM_len.symm)) 937 rfl ?_
  exact g_icmp_eqT C dL_law_937 rfl 1465 rfl (kk y S2 M2 R2)
theorem law_27 (C : Cx p s m args c g A cL_law 4 wsL_law RL) {b L : Nat} {xs : Nat → Int32} (hX : va_X b L xs s s.heap) (hbl : b < s.heap.size) (hbA : ¬ A b) {i : Nat} (hi : i + 5 ≤ L) (hL : L ≤ 2560) {u d : Nat → Nat} {y : Nat → Nat → Nat} {S M : ST} (R : Rel S M) (kk : ∀ y2 S2 M2, Rel S2 M2 → LGo p l e s m args below meth c Q g A u d b i 1465 y2 S2 M2) : LGo p l e s m args below meth c Q g A u d b i 942 y S M := by
  obtain ⟨r, S2, M2, h1, h2, R2⟩ := o_said R 0 (xs (i + 1)) (xs (i + 2)) (xs (i + 3))
  unfold LGo
  refine g_aload_n C dL_law_942 rfl 943 rfl ?_
  refine g_sarg C hX hbl hbA (i := i) rfl rfl 1 rfl (by omega) hL dL_law_943 dL_law_944 dL_law_945 dL_law_946 dL_law_947 948 rfl ?_
  refine g_sarg C hX hbl hbA (i := i) rfl rfl 2 rfl (by omega) hL dL_law_948 dL_law_949 dL_law_950 dL_law_951 dL_law_952 953 rfl ?_
  refine g_sarg C hX hbl hbA (i := i) rfl rfl 3 rfl (by omega) hL dL_law_953 dL_law_954 dL_law_955 dL_law_956 dL_law_957 958 rfl ?_
  refine g_callL C (rn_V C (k_X3_said l g u y S (xs (i + 1)) (xs (i + 2)) (xs (i + 3)) (0 + 200) (r, S2) h1) (cwV 3 C.1.2.2.2.2 (gdLV wl_731 wl_728 wl_729 wl_730 wl_2) rfl rfl rfl hd_X3_said ⟨Nat.le_of_ble_eq_true rfl, Nat.le_of_ble_eq_true rfl⟩) 0 rfl rfl _ ap_C1 rg_n rfl rfl (Nat.le_of_ble_eq_true rfl) ⟨Nat.le_of_ble_eq_true rfl, Nat.le_of_ble_eq_true rfl⟩ dL_law_958) (wC g u y S2 ++ wM g d M) (ap_P1 (wC_len.trans wC_len.symm)) (rg_len (wC_len.trans wC_len.symm)) 961 rfl ?_
  refine g_aload_n C dL_law_961 rfl 962 rfl ?_
  refine g_sarg C hX hbl hbA (i := i) rfl rfl 1 rfl (by omega) hL dL_law_962 dL_law_963 dL_law_964 dL_law_965 dL_law_966 967 rfl ?_
  refine g_sarg C hX hbl hbA (i := i) rfl rfl 2 rfl (by omega) hL dL_law_967 dL_law_968 dL_law_969 dL_law_970 dL_law_971 972 rfl ?_
  refine g_sarg C hX hbl hbA (i := i) rfl rfl 3 rfl (by omega) hL dL_law_972 dL_law_973 dL_law_974 dL_law_975 dL_law_976 977 rfl ?_
  refine g_callL C (rn_V C (k_X4_said l g d M (xs (i + 1)) (xs (i + 2)) (xs (i + 3)) (0 + 200) (r, M2) h2) (cwV 3 C.1.2.2.2.2 (gdLV wl_747 wl_744 wl_745 wl_746 wl_5) rfl rfl rfl hd_X4_said ⟨Nat.le_of_ble_eq_true rfl, Nat.le_of_ble_eq_true rfl⟩) 45 rfl rfl _ (ap_C2 wC_len) nd_M rfl rfl (Nat.le_of_ble_eq_true rfl) ⟨Nat.le_of_ble_eq_true rfl, Nat.le_of_ble_eq_true rfl⟩ dL_law_977) (wC g u y S2 ++ wM g d M2) (ap_P2 wC_len (wM_len.trans wM_len.symm)) (ln_M (wM_len.trans wM_len.symm)) 980 rfl ?_
  refine g_lcmp C dL_law_980 981 rfl ?_
  exact g_if_eqT C dL_law_981 (lg_same r) 1465 rfl (kk y S2 M2 R2)
theorem law_28 (C : Cx p s m args c g A cL_law 4 wsL_law RL) {b L : Nat} {xs : Nat → Int32} (hX : va_X b L xs s s.heap) (hbl : b < s.heap.size) (hbA : ¬ A b) {i : Nat} (hi : i + 5 ≤ L) (hL : L ≤ 2560) {u d : Nat → Nat} {y : Nat → Nat → Nat} {S M : ST} (R : Rel S M) (kk : ∀ y2 S2 M2, Rel S2 M2 → LGo p l e s m args below meth c Q g A u d b i 1465 y2 S2 M2) : LGo p l e s m args below meth c Q g A u d b i 986 y S M := by
  obtain ⟨r, S2, M2, h1, h2, R2⟩ := o_ask R 0
  unfold LGo
  refine g_aload_n C dL_law_986 rfl 987 rfl ?_
  refine g_callI C (rn_V C (k_X3_ask l g u y S (0 + 200) (r, S2) h1) (cwV 0 C.1.2.2.2.2 (gdLV wl_755 wl_752 wl_753 wl_754 wl_2) rfl rfl rfl hd_X3_ask ⟨Nat.le_of_ble_eq_true rfl, Nat.le_of_ble_eq_true rfl⟩) 0 rfl rfl _ ap_C1 rg_n rfl rfl (Nat.le_of_ble_eq_true rfl) ⟨Nat.le_of_ble_eq_true rfl, Nat.le_of_ble_eq_true rfl⟩ dL_law_987) (wC g u y S2 ++ wM g d M) (ap_P1 (wC_len.trans wC_len.symm)) (rg_len (wC_len.trans wC_len.symm)) 990 rfl ?_
  refine g_aload_n C dL_law_990 rfl 991 rfl ?_
  refine g_callI C (rn_V C (k_X4_ask l g d M (0 + 200) (r, M2) h2) (cwV 0 C.1.2.2.2.2 (gdLV wl_764 wl_761 wl_762 wl_763 wl_5) rfl rfl rfl hd_X4_ask ⟨Nat.le_of_ble_eq_true rfl, Nat.le_of_ble_eq_true rfl⟩) 45 rfl rfl _ (ap_C2 wC_len) nd_M rfl rfl (Nat.le_of_ble_eq_true rfl) ⟨Nat.le_of_ble_eq_true rfl, Nat.le_of_ble_eq_true rfl⟩ dL_law_991) (wC g u y S2 ++ wM g d M2) (ap_P2 wC_len (wM_len.trans wM_len.symm)) (ln_M (wM_len.trans wM_len.symm)) 994 rfl ?_
  exact g_icmp_eqT C dL_law_994 rfl 1465 rfl (kk y S2 M2 R2)
theorem law_29 (C : Cx p s m args c g A cL_law 4 wsL_law RL) {b L : Nat} {xs : Nat → Int32} (hX : va_X b L xs s s.heap) (hbl : b < s.heap.size) (hbA : ¬ A b) {i : Nat} (hi : i + 5 ≤ L) (hL : L ≤ 2560) {u d : Nat → Nat} {y : Nat → Nat → Nat} {S M : ST} (R : Rel S M) (kk : ∀ y2 S2 M2, Rel S2 M2 → LGo p l e s m args below meth c Q g A u d b i 1465 y2 S2 M2) : LGo p l e s m args below meth c Q g A u d b i 999 y S M := by
  obtain ⟨r, S2, M2, h1, h2, R2⟩ := o_keep R 0 (xs (i + 1)) (xs (i + 2)) (xs (i + 3))
  unfold LGo
  refine g_aload_n C dL_law_999 rfl 1000 rfl ?_
  refine g_sarg C hX hbl hbA (i := i) rfl rfl 1 rfl (by omega) hL dL_law_1000 dL_law_1001 dL_law_1002 dL_law_1003 dL_law_1004 1005 rfl ?_
  refine g_sarg C hX hbl hbA (i := i) rfl rfl 2 rfl (by omega) hL dL_law_1005 dL_law_1006 dL_law_1007 dL_law_1008 dL_law_1009 1010 rfl ?_
  refine g_sarg C hX hbl hbA (i := i) rfl rfl 3 rfl (by omega) hL dL_law_1010 dL_law_1011 dL_law_1012 dL_law_1013 dL_law_1014 1015 rfl ?_
  refine g_callI C (rn_V C (k_X3_keep l g u y S (xs (i + 1)) (xs (i + 2)) (xs (i + 3)) (0 + 200) (r, S2) h1) (cwV 3 C.1.2.2.2.2 (gdLV wl_772 wl_769 wl_770 wl_771 wl_2) rfl rfl rfl hd_X3_keep ⟨Nat.le_of_ble_eq_true rfl, Nat.le_of_ble_eq_true rfl⟩) 0 rfl rfl _ ap_C1 rg_n rfl rfl (Nat.le_of_ble_eq_true rfl) ⟨Nat.le_of_ble_eq_true rfl, Nat.le_of_ble_eq_true rfl⟩ dL_law_1015) (wC g u y S2 ++ wM g d M) (ap_P1 (wC_len.trans wC_len.symm)) (rg_len (wC_len.trans wC_len.symm)) 1018 rfl ?_
  refine g_aload_n C dL_law_1018 rfl 1019 rfl ?_
  refine g_sarg C hX hbl hbA (i := i) rfl rfl 1 rfl (by omega) hL dL_law_1019 dL_law_1020 dL_law_1021 dL_law_1022 dL_law_1023 1024 rfl ?_
  refine g_sarg C hX hbl hbA (i := i) rfl rfl 2 rfl (by omega) hL dL_law_1024 dL_law_1025 dL_law_1026 dL_law_1027 dL_law_1028 1029 rfl ?_
  refine g_sarg C hX hbl hbA (i := i) rfl rfl 3 rfl (by omega) hL dL_law_1029 dL_law_1030 dL_law_1031 dL_law_1032 dL_law_1033 1034 rfl ?_
  refine g_callI C (rn_V C (k_X4_keep l g d M (xs (i + 1)) (xs (i + 2)) (xs (i + 3)) (0 + 200) (r, M2) h2) (cwV 3 C.1.2.2.2.2 (gdLV wl_776 wl_773 wl_774 wl_775 wl_5) rfl rfl rfl hd_X4_keep ⟨Nat.le_of_ble_eq_true rfl, Nat.le_of_ble_eq_true rfl⟩) 45 rfl rfl _ (ap_C2 wC_len) nd_M rfl rfl (Nat.le_of_ble_eq_true rfl) ⟨Nat.le_of_ble_eq_true rfl, Nat.le_of_ble_eq_true rfl⟩ dL_law_1034) (wC g u y S2 ++ wM g d M2) (ap_P2 wC_len (wM_len.trans wM_len.symm)) (ln_M (wM_len.trans wM_len.symm)) 1037 rfl ?_
  exact g_icmp_eqT C dL_law_1037 rfl 1465 rfl (kk y S2 M2 R2)
theorem law_30 (C : Cx p s m args c g A cL_law 4 wsL_law RL) {b L : Nat} {xs : Nat → Int32} (hX : va_X b L xs s s.heap) (hbl : b < s.heap.size) (hbA : ¬ A b) {i : Nat} (hi : i + 5 ≤ L) (hL : L ≤ 2560) {u d : Nat → Nat} {y : Nat → Nat → Nat} {S M : ST} (R : Rel S M) (kk : ∀ y2 S2 M2, Rel S2 M2 → LGo p l e s m args below meth c Q g A u d b i 1465 y2 S2 M2) : LGo p l e s m args below meth c Q g A u d b i 1042 y S M := by
  obtain ⟨r, S2, M2, h1, h2, R2⟩ := o_seldom R 0 (xs (i + 1)) (xs (i + 2))
  unfold LGo
  refine g_aload_n C dL_law_1042 rfl 1043 rfl ?_
  refine g_sarg C hX hbl hbA (i := i) rfl rfl 1 rfl (by omega) hL dL_law_1043 dL_law_1044 dL_law_1045 dL_law_1046 dL_law_1047 1048 rfl ?_
  refine g_sarg C hX hbl hbA (i := i) rfl rfl 2 rfl (by omega) hL dL_law_1048 dL_law_1049 dL_law_1050 dL_law_1051 dL_law_1052 1053 rfl ?_
  refine g_callI C (rn_V C (k_X3_seldom l g u y S (xs (i + 1)) (xs (i + 2)) (0 + 200) (r, S2) h1) (cwV 2 C.1.2.2.2.2 (gdLV wl_784 wl_781 wl_782 wl_783 wl_2) rfl rfl rfl hd_X3_seldom ⟨Nat.le_of_ble_eq_true rfl, Nat.le_of_ble_eq_true rfl⟩) 0 rfl rfl _ ap_C1 rg_n rfl rfl (Nat.le_of_ble_eq_true rfl) ⟨Nat.le_of_ble_eq_true rfl, Nat.le_of_ble_eq_true rfl⟩ dL_law_1053) (wC g u y S2 ++ wM g d M) (ap_P1 (wC_len.trans wC_len.symm)) (rg_len (wC_len.trans wC_len.symm)) 1056 rfl ?_
  refine g_aload_n C dL_law_1056 rfl 1057 rfl ?_
  refine g_sarg C hX hbl hbA (i := i) rfl rfl 1 rfl (by omega) hL dL_law_1057 dL_law_1058 dL_law_1059 dL_law_1060 dL_law_1061 1062 rfl ?_
  refine g_sarg C hX hbl hbA (i := i) rfl rfl 2 rfl (by omega) hL dL_law_1062 dL_law_1063 dL_law_1064 dL_law_1065 dL_law_1066 1067 rfl ?_
  refine g_callI C (rn_V C (k_X4_seldom l g d M (xs (i + 1)) (xs (i + 2)) (0 + 200) (r, M2) h2) (cwV 2 C.1.2.2.2.2 (gdLV wl_788 wl_785 wl_786 wl_787 wl_5) rfl rfl rfl hd_X4_seldom ⟨Nat.le_of_ble_eq_true rfl, Nat.le_of_ble_eq_true rfl⟩) 45 rfl rfl _ (ap_C2 wC_len) nd_M rfl rfl (Nat.le_of_ble_eq_true rfl) ⟨Nat.le_of_ble_eq_true rfl, Nat.le_of_ble_eq_true rfl⟩ dL_law_1067) (wC g u y S2 ++ wM g d M2) (ap_P2 wC_len (wM_len.trans wM_len.symm)) (ln_M (wM_len.trans wM_len.symm)) 1070 rfl ?_
  exact g_icmp_eqT C dL_law_1070 rfl 1465 rfl (kk y S2 M2 R2)
theorem law_31 (C : Cx p s m args c g A cL_law 4 wsL_law RL) {b L : Nat} {xs : Nat → Int32} (hX : va_X b L xs s s.heap) (hbl : b < s.heap.size) (hbA : ¬ A b) {i : Nat} (hi : i + 5 ≤ L) (hL : L ≤ 2560) {u d : Nat → Nat} {y : Nat → Nat → Nat} {S M : ST} (R : Rel S M) (kk : ∀ y2 S2 M2, Rel S2 M2 → LGo p l e s m args below meth c Q g A u d b i 1465 y2 S2 M2) : LGo p l e s m args below meth c Q g A u d b i 1075 y S M := by
  obtain ⟨r, S2, M2, h1, h2, R2⟩ := o_join R 0 (xs (i + 1)) (xs (i + 2)) (xs (i + 3)) (xs (i + 4))
  unfold LGo
  refine g_aload_n C dL_law_1075 rfl 1076 rfl ?_
  refine g_sarg C hX hbl hbA (i := i) rfl rfl 1 rfl (by omega) hL dL_law_1076 dL_law_1077 dL_law_1078 dL_law_1079 dL_law_1080 1081 rfl ?_
  refine g_sarg C hX hbl hbA (i := i) rfl rfl 2 rfl (by omega) hL dL_law_1081 dL_law_1082 dL_law_1083 dL_law_1084 dL_law_1085 1086 rfl ?_
  refine g_sarg C hX hbl hbA (i := i) rfl rfl 3 rfl (by omega) hL dL_law_1086 dL_law_1087 dL_law_1088 dL_law_1089 dL_law_1090 1091 rfl ?_
  refine g_sarg C hX hbl hbA (i := i) rfl rfl 4 rfl (by omega) hL dL_law_1091 dL_law_1092 dL_law_1093 dL_law_1094 dL_law_1095 1096 rfl ?_
  refine g_callL C (rn_V C (k_X3_join l g u y S (xs (i + 1)) (xs (i + 2)) (xs (i + 3)) (xs (i + 4)) (0 + 200) (r, S2) h1) (cwV 4 C.1.2.2.2.2 (gdLV wl_792 wl_789 wl_790 wl_791 wl_2) rfl rfl rfl hd_X3_join ⟨Nat.le_of_ble_eq_true rfl, Nat.le_of_ble_eq_true rfl⟩) 0 rfl rfl _ ap_C1 rg_n rfl rfl (Nat.le_of_ble_eq_true rfl) ⟨Nat.le_of_ble_eq_true rfl, Nat.le_of_ble_eq_true rfl⟩ dL_law_1096) (wC g u y S2 ++ wM g d M) (ap_P1 (wC_len.trans wC_len.symm)) (rg_len (wC_len.trans wC_len.symm)) 1099 rfl ?_
  refine g_aload_n C dL_law_1099 rfl 1100 rfl ?_
  refine g_sarg C hX hbl hbA (i := i) rfl rfl 1 rfl (by omega) hL dL_law_1100 dL_law_1101 dL_law_1102 dL_law_1103 dL_law_1104 1105 rfl ?_
  refine g_sarg C hX hbl hbA (i := i) rfl rfl 2 rfl (by omega) hL dL_law_1105 dL_law_1106 dL_law_1107 dL_law_1108 dL_law_1109 1110 rfl ?_
  refine g_sarg C hX hbl hbA (i := i) rfl rfl 3 rfl (by omega) hL dL_law_1110 dL_law_1111 dL_law_1112 dL_law_1113 dL_law_1114 1115 rfl ?_
  refine g_sarg C hX hbl hbA (i := i) rfl rfl 4 rfl (by omega) hL dL_law_1115 dL_law_1116 dL_law_1117 dL_law_1118 dL_law_1119 1120 rfl ?_
  refine g_callL C (rn_V C (k_X4_join l g d M (xs (i + 1)) (xs (i + 2)) (xs (i + 3)) (xs (i + 4)) (0 + 200) (r, M2) h2) (cwV 4 C.1.2.2.2.2 (gdLV wl_799 wl_796 wl_797 wl_798 wl_5) rfl rfl rfl hd_X4_join ⟨Nat.le_of_ble_eq_true rfl, Nat.le_of_ble_eq_true rfl⟩) 45 rfl rfl _ (ap_C2 wC_len) nd_M rfl rfl (Nat.le_of_ble_eq_true rfl) ⟨Nat.le_of_ble_eq_true rfl, Nat.le_of_ble_eq_true rfl⟩ dL_law_1120) (wC g u y S2 ++ wM g d M2) (ap_P2 wC_len (wM_len.trans wM_len.symm)) (ln_M (wM_len.trans wM_len.symm)) 1123 rfl ?_
  refine g_lcmp C dL_law_1123 1124 rfl ?_
  exact g_if_eqT C dL_law_1124 (lg_same r) 1465 rfl (kk y S2 M2 R2)
theorem law_32 (C : Cx p s m args c g A cL_law 4 wsL_law RL) {b L : Nat} {xs : Nat → Int32} (hX : va_X b L xs s s.heap) (hbl : b < s.heap.size) (hbA : ¬ A b) {i : Nat} (hi : i + 5 ≤ L) (hL : L ≤ 2560) {u d : Nat → Nat} {y : Nat → Nat → Nat} {S M : ST} (R : Rel S M) (kk : ∀ y2 S2 M2, Rel S2 M2 → LGo p l e s m args below meth c Q g A u d b i 1465 y2 S2 M2) : LGo p l e s m args below meth c Q g A u d b i 1129 y S M := by
  obtain ⟨r, S2, M2, h1, h2, R2⟩ := o_larder R 0 (xs (i + 1)) (xs (i + 2)) (xs (i + 3)) (xs (i + 4))
  unfold LGo
  refine g_aload_n C dL_law_1129 rfl 1130 rfl ?_
  refine g_sarg C hX hbl hbA (i := i) rfl rfl 1 rfl (by omega) hL dL_law_1130 dL_law_1131 dL_law_1132 dL_law_1133 dL_law_1134 1135 rfl ?_
  refine g_sarg C hX hbl hbA (i := i) rfl rfl 2 rfl (by omega) hL dL_law_1135 dL_law_1136 dL_law_1137 dL_law_1138 dL_law_1139 1140 rfl ?_
  refine g_sarg C hX hbl hbA (i := i) rfl rfl 3 rfl (by omega) hL dL_law_1140 dL_law_1141 dL_law_1142 dL_law_1143 dL_law_1144 1145 rfl ?_
  refine g_sarg C hX hbl hbA (i := i) rfl rfl 4 rfl (by omega) hL dL_law_1145 dL_law_1146 dL_law_1147 dL_law_1148 dL_law_1149 1150 rfl ?_
  refine g_callI C (rn_V C (k_X3_larder l g u y S (xs (i + 1)) (xs (i + 2)) (xs (i + 3)) (xs (i + 4)) (0 + 200) (r, S2) h1) (cwV 4 C.1.2.2.2.2 (gdLV wl_803 wl_800 wl_801 wl_802 wl_2) rfl rfl rfl hd_X3_larder ⟨Nat.le_of_ble_eq_true rfl, Nat.le_of_ble_eq_true rfl⟩) 0 rfl rfl _ ap_C1 rg_n rfl rfl (Nat.le_of_ble_eq_true rfl) ⟨Nat.le_of_ble_eq_true rfl, Nat.le_of_ble_eq_true rfl⟩ dL_law_1150) (wC g u y S2 ++ wM g d M) (ap_P1 (wC_len.trans wC_len.symm)) (rg_len (wC_len.trans wC_len.symm)) 1153 rfl ?_
  refine g_aload_n C dL_law_1153 rfl 1154 rfl ?_
  refine g_sarg C hX hbl hbA (i := i) rfl rfl 1 rfl (by omega) hL dL_law_1154 dL_law_1155 dL_law_1156 dL_law_1157 dL_law_1158 1159 rfl ?_
  refine g_sarg C hX hbl hbA (i := i) rfl rfl 2 rfl (by omega) hL dL_law_1159 dL_law_1160 dL_law_1161 dL_law_1162 dL_law_1163 1164 rfl ?_
  refine g_sarg C hX hbl hbA (i := i) rfl rfl 3 rfl (by omega) hL dL_law_1164 dL_law_1165 dL_law_1166 dL_law_1167 dL_law_1168 1169 rfl ?_
  refine g_sarg C hX hbl hbA (i := i) rfl rfl 4 rfl (by omega) hL dL_law_1169 dL_law_1170 dL_law_1171 dL_law_1172 dL_law_1173 1174 rfl ?_
  refine g_callI C (rn_V C (k_X4_larder l g d M (xs (i + 1)) (xs (i + 2)) (xs (i + 3)) (xs (i + 4)) (0 + 200) (r, M2) h2) (cwV 4 C.1.2.2.2.2 (gdLV wl_811 wl_808 wl_809 wl_810 wl_5) rfl rfl rfl hd_X4_larder ⟨Nat.le_of_ble_eq_true rfl, Nat.le_of_ble_eq_true rfl⟩) 45 rfl rfl _ (ap_C2 wC_len) nd_M rfl rfl (Nat.le_of_ble_eq_true rfl) ⟨Nat.le_of_ble_eq_true rfl, Nat.le_of_ble_eq_true rfl⟩ dL_law_1174) (wC g u y S2 ++ wM g d M2) (ap_P2 wC_len (wM_len.trans wM_len.symm)) (ln_M (wM_len.trans wM_len.symm)) 1177 rfl ?_
  exact g_icmp_eqT C dL_law_1177 rfl 1465 rfl (kk y S2 M2 R2)
theorem law_33 (C : Cx p s m args c g A cL_law 4 wsL_law RL) {b L : Nat} {xs : Nat → Int32} (hX : va_X b L xs s s.heap) (hbl : b < s.heap.size) (hbA : ¬ A b) {i : Nat} (hi : i + 5 ≤ L) (hL : L ≤ 2560) {u d : Nat → Nat} {y : Nat → Nat → Nat} {S M : ST} (R : Rel S M) (kk : ∀ y2 S2 M2, Rel S2 M2 → LGo p l e s m args below meth c Q g A u d b i 1465 y2 S2 M2) : LGo p l e s m args below meth c Q g A u d b i 1182 y S M := by
  obtain ⟨r, S2, M2, h1, h2, R2⟩ := o_buy R 0 (xs (i + 1)) (xs (i + 2))
  unfold LGo
  refine g_aload_n C dL_law_1182 rfl 1183 rfl ?_
  refine g_sarg C hX hbl hbA (i := i) rfl rfl 1 rfl (by omega) hL dL_law_1183 dL_law_1184 dL_law_1185 dL_law_1186 dL_law_1187 1188 rfl ?_
  refine g_sarg C hX hbl hbA (i := i) rfl rfl 2 rfl (by omega) hL dL_law_1188 dL_law_1189 dL_law_1190 dL_law_1191 dL_law_1192 1193 rfl ?_
  refine g_callI C (rn_V C (k_X3_buy l g u y S (xs (i + 1)) (xs (i + 2)) (0 + 200) (r, S2) h1) (cwV 2 C.1.2.2.2.2 (gdLV wl_820 wl_817 wl_818 wl_819 wl_2) rfl rfl rfl hd_X3_buy ⟨Nat.le_of_ble_eq_true rfl, Nat.le_of_ble_eq_true rfl⟩) 0 rfl rfl _ ap_C1 rg_n rfl rfl (Nat.le_of_ble_eq_true rfl) ⟨Nat.le_of_ble_eq_true rfl, Nat.le_of_ble_eq_true rfl⟩ dL_law_1193) (wC g u y S2 ++ wM g d M) (ap_P1 (wC_len.trans wC_len.symm)) (rg_len (wC_len.trans wC_len.symm)) 1196 rfl ?_
  refine g_aload_n C dL_law_1196 rfl 1197 rfl ?_
  refine g_sarg C hX hbl hbA (i := i) rfl rfl 1 rfl (by omega) hL dL_law_1197 dL_law_1198 dL_law_1199 dL_law_1200 dL_law_1201 1202 rfl ?_
  refine g_sarg C hX hbl hbA (i := i) rfl rfl 2 rfl (by omega) hL dL_law_1202 dL_law_1203 dL_law_1204 dL_law_1205 dL_law_1206 1207 rfl ?_
  refine g_callI C (rn_V C (k_X4_buy l g d M (xs (i + 1)) (xs (i + 2)) (0 + 200) (r, M2) h2) (cwV 2 C.1.2.2.2.2 (gdLV wl_824 wl_821 wl_822 wl_823 wl_5) rfl rfl rfl hd_X4_buy ⟨Nat.le_of_ble_eq_true rfl, Nat.le_of_ble_eq_true rfl⟩) 45 rfl rfl _ (ap_C2 wC_len) nd_M rfl rfl (Nat.le_of_ble_eq_true rfl) ⟨Nat.le_of_ble_eq_true rfl, Nat.le_of_ble_eq_true rfl⟩ dL_law_1207) (wC g u y S2 ++ wM g d M2) (ap_P2 wC_len (wM_len.trans wM_len.symm)) (ln_M (wM_len.trans wM_len.symm)) 1210 rfl ?_
  exact g_icmp_eqT C dL_law_1210 rfl 1465 rfl (kk y S2 M2 R2)
theorem law_34 (C : Cx p s m args c g A cL_law 4 wsL_law RL) {b L : Nat} {xs : Nat → Int32} (hX : va_X b L xs s s.heap) (hbl : b < s.heap.size) (hbA : ¬ A b) {i : Nat} (hi : i + 5 ≤ L) (hL : L ≤ 2560) {u d : Nat → Nat} {y : Nat → Nat → Nat} {S M : ST} (R : Rel S M) (kk : ∀ y2 S2 M2, Rel S2 M2 → LGo p l e s m args below meth c Q g A u d b i 1465 y2 S2 M2) : LGo p l e s m args below meth c Q g A u d b i 1215 y S M := by
  obtain ⟨r, S2, M2, h1, h2, R2⟩ := o_rule R 0 (xs (i + 1)) (xs (i + 2)) (xs (i + 3)) (xs (i + 4))
  unfold LGo
  refine g_aload_n C dL_law_1215 rfl 1216 rfl ?_
  refine g_sarg C hX hbl hbA (i := i) rfl rfl 1 rfl (by omega) hL dL_law_1216 dL_law_1217 dL_law_1218 dL_law_1219 dL_law_1220 1221 rfl ?_
  refine g_sarg C hX hbl hbA (i := i) rfl rfl 2 rfl (by omega) hL dL_law_1221 dL_law_1222 dL_law_1223 dL_law_1224 dL_law_1225 1226 rfl ?_
  refine g_sarg C hX hbl hbA (i := i) rfl rfl 3 rfl (by omega) hL dL_law_1226 dL_law_1227 dL_law_1228 dL_law_1229 dL_law_1230 1231 rfl ?_
  refine g_sarg C hX hbl hbA (i := i) rfl rfl 4 rfl (by omega) hL dL_law_1231 dL_law_1232 dL_law_1233 dL_law_1234 dL_law_1235 1236 rfl ?_
  refine g_callI C (rn_V C (k_X3_rule l g u y S (xs (i + 1)) (xs (i + 2)) (xs (i + 3)) (xs (i + 4)) (0 + 200) (r, S2) h1) (cwV 4 C.1.2.2.2.2 (gdLV wl_828 wl_825 wl_826 wl_827 wl_2) rfl rfl rfl hd_X3_rule ⟨Nat.le_of_ble_eq_true rfl, Nat.le_of_ble_eq_true rfl⟩) 0 rfl rfl _ ap_C1 rg_n rfl rfl (Nat.le_of_ble_eq_true rfl) ⟨Nat.le_of_ble_eq_true rfl, Nat.le_of_ble_eq_true rfl⟩ dL_law_1236) (wC g u y S2 ++ wM g d M) (ap_P1 (wC_len.trans wC_len.symm)) (rg_len (wC_len.trans wC_len.symm)) 1239 rfl ?_
  refine g_aload_n C dL_law_1239 rfl 1240 rfl ?_
  refine g_sarg C hX hbl hbA (i := i) rfl rfl 1 rfl (by omega) hL dL_law_1240 dL_law_1241 dL_law_1242 dL_law_1243 dL_law_1244 1245 rfl ?_
  refine g_sarg C hX hbl hbA (i := i) rfl rfl 2 rfl (by omega) hL dL_law_1245 dL_law_1246 dL_law_1247 dL_law_1248 dL_law_1249 1250 rfl ?_
  refine g_sarg C hX hbl hbA (i := i) rfl rfl 3 rfl (by omega) hL dL_law_1250 dL_law_1251 dL_law_1252 dL_law_1253 dL_law_1254 1255 rfl ?_
  refine g_sarg C hX hbl hbA (i := i) rfl rfl 4 rfl (by omega) hL dL_law_1255 dL_law_1256 dL_law_1257 dL_law_1258 dL_law_1259 1260 rfl ?_
  refine g_callI C (rn_V C (k_X4_rule l g d M (xs (i + 1)) (xs (i + 2)) (xs (i + 3)) (xs (i + 4)) (0 + 200) (r, M2) h2) (cwV 4 C.1.2.2.2.2 (gdLV wl_848 wl_845 wl_846 wl_847 wl_5) rfl rfl rfl hd_X4_rule ⟨Nat.le_of_ble_eq_true rfl, Nat.le_of_ble_eq_true rfl⟩) 45 rfl rfl _ (ap_C2 wC_len) nd_M rfl rfl (Nat.le_of_ble_eq_true rfl) ⟨Nat.le_of_ble_eq_true rfl, Nat.le_of_ble_eq_true rfl⟩ dL_law_1260) (wC g u y S2 ++ wM g d M2) (ap_P2 wC_len (wM_len.trans wM_len.symm)) (ln_M (wM_len.trans wM_len.symm)) 1263 rfl ?_
  exact g_icmp_eqT C dL_law_1263 rfl 1465 rfl (kk y S2 M2 R2)
theorem law_35 (C : Cx p s m args c g A cL_law 4 wsL_law RL) {b L : Nat} {xs : Nat → Int32} (hX : va_X b L xs s s.heap) (hbl : b < s.heap.size) (hbA : ¬ A b) {i : Nat} (hi : i + 5 ≤ L) (hL : L ≤ 2560) {u d : Nat → Nat} {y : Nat → Nat → Nat} {S M : ST} (R : Rel S M) (kk : ∀ y2 S2 M2, Rel S2 M2 → LGo p l e s m args below meth c Q g A u d b i 1465 y2 S2 M2) : LGo p l e s m args below meth c Q g A u d b i 1268 y S M := by
  obtain ⟨r, S2, M2, h1, h2, R2⟩ := o_bestRule R 0 (xs (i + 1))
  unfold LGo
  refine g_aload_n C dL_law_1268 rfl 1269 rfl ?_
  refine g_sarg C hX hbl hbA (i := i) rfl rfl 1 rfl (by omega) hL dL_law_1269 dL_law_1270 dL_law_1271 dL_law_1272 dL_law_1273 1274 rfl ?_
  refine g_callI C (rn_V C (k_X3_bestRule l g u y S (xs (i + 1)) (0 + 200) (r, S2) h1) (cwV 1 C.1.2.2.2.2 (gdLV wl_865 wl_862 wl_863 wl_864 wl_2) rfl rfl rfl hd_X3_bestRule ⟨Nat.le_of_ble_eq_true rfl, Nat.le_of_ble_eq_true rfl⟩) 0 rfl rfl _ ap_C1 rg_n rfl rfl (Nat.le_of_ble_eq_true rfl) ⟨Nat.le_of_ble_eq_true rfl, Nat.le_of_ble_eq_true rfl⟩ dL_law_1274) (wC g u y S2 ++ wM g d M) (ap_P1 (wC_len.trans wC_len.symm)) (rg_len (wC_len.trans wC_len.symm)) 1277 rfl ?_
  refine g_aload_n C dL_law_1277 rfl 1278 rfl ?_
  refine g_sarg C hX hbl hbA (i := i) rfl rfl 1 rfl (by omega) hL dL_law_1278 dL_law_1279 dL_law_1280 dL_law_1281 dL_law_1282 1283 rfl ?_
  refine g_callI C (rn_V C (k_X4_bestRule l g d M (xs (i + 1)) (0 + 200) (r, M2) h2) (cwV 1 C.1.2.2.2.2 (gdLV wl_869 wl_866 wl_867 wl_868 wl_5) rfl rfl rfl hd_X4_bestRule ⟨Nat.le_of_ble_eq_true rfl, Nat.le_of_ble_eq_true rfl⟩) 45 rfl rfl _ (ap_C2 wC_len) nd_M rfl rfl (Nat.le_of_ble_eq_true rfl) ⟨Nat.le_of_ble_eq_true rfl, Nat.le_of_ble_eq_true rfl⟩ dL_law_1283) (wC g u y S2 ++ wM g d M2) (ap_P2 wC_len (wM_len.trans wM_len.symm)) (ln_M (wM_len.trans wM_len.symm)) 1286 rfl ?_
  exact g_icmp_eqT C dL_law_1286 rfl 1465 rfl (kk y S2 M2 R2)
theorem law_36 (C : Cx p s m args c g A cL_law 4 wsL_law RL) {b L : Nat} {xs : Nat → Int32} (hX : va_X b L xs s s.heap) (hbl : b < s.heap.size) (hbA : ¬ A b) {i : Nat} (hi : i + 5 ≤ L) (hL : L ≤ 2560) {u d : Nat → Nat} {y : Nat → Nat → Nat} {S M : ST} (R : Rel S M) (kk : ∀ y2 S2 M2, Rel S2 M2 → LGo p l e s m args below meth c Q g A u d b i 1465 y2 S2 M2) : LGo p l e s m args below meth c Q g A u d b i 1291 y S M := by
  obtain ⟨r, S2, M2, h1, h2, R2⟩ := o_ill R 0 (xs (i + 1))
  unfold LGo
  refine g_aload_n C dL_law_1291 rfl 1292 rfl ?_
  refine g_sarg C hX hbl hbA (i := i) rfl rfl 1 rfl (by omega) hL dL_law_1292 dL_law_1293 dL_law_1294 dL_law_1295 dL_law_1296 1297 rfl ?_
  refine g_callI C (rn_V C (k_X3_ill l g u y S (xs (i + 1)) (0 + 200) (r, S2) h1) (cwV 1 C.1.2.2.2.2 (gdLV wl_877 wl_874 wl_875 wl_876 wl_2) rfl rfl rfl hd_X3_ill ⟨Nat.le_of_ble_eq_true rfl, Nat.le_of_ble_eq_true rfl⟩) 0 rfl rfl _ ap_C1 rg_n rfl rfl (Nat.le_of_ble_eq_true rfl) ⟨Nat.le_of_ble_eq_true rfl, Nat.le_of_ble_eq_true rfl⟩ dL_law_1297) (wC g u y S2 ++ wM g d M) (ap_P1 (wC_len.trans wC_len.symm)) (rg_len (wC_len.trans wC_len.symm)) 1300 rfl ?_
  refine g_aload_n C dL_law_1300 rfl 1301 rfl ?_
  refine g_sarg C hX hbl hbA (i := i) rfl rfl 1 rfl (by omega) hL dL_law_1301 dL_law_1302 dL_law_1303 dL_law_1304 dL_law_1305 1306 rfl ?_
  refine g_callI C (rn_V C (k_X4_ill l g d M (xs (i + 1)) (0 + 200) (r, M2) h2) (cwV 1 C.1.2.2.2.2 (gdLV wl_889 wl_886 wl_887 wl_888 wl_5) rfl rfl rfl hd_X4_ill ⟨Nat.le_of_ble_eq_true rfl, Nat.le_of_ble_eq_true rfl⟩) 45 rfl rfl _ (ap_C2 wC_len) nd_M rfl rfl (Nat.le_of_ble_eq_true rfl) ⟨Nat.le_of_ble_eq_true rfl, Nat.le_of_ble_eq_true rfl⟩ dL_law_1306) (wC g u y S2 ++ wM g d M2) (ap_P2 wC_len (wM_len.trans wM_len.symm)) (ln_M (wM_len.trans wM_len.symm)) 1309 rfl ?_
  exact g_icmp_eqT C dL_law_1309 rfl 1465 rfl (kk y S2 M2 R2)
theorem law_37 (C : Cx p s m args c g A cL_law 4 wsL_law RL) {b L : Nat} {xs : Nat → Int32} (hX : va_X b L xs s s.heap) (hbl : b < s.heap.size) (hbA : ¬ A b) {i : Nat} (hi : i + 5 ≤ L) (hL : L ≤ 2560) {u d : Nat → Nat} {y : Nat → Nat → Nat} {S M : ST} (R : Rel S M) (kk : ∀ y2 S2 M2, Rel S2 M2 → LGo p l e s m args below meth c Q g A u d b i 1465 y2 S2 M2) : LGo p l e s m args below meth c Q g A u d b i 1314 y S M := by
  obtain ⟨r, S2, M2, h1, h2, R2⟩ := o_row R 0 (xs (i + 1))
  have q1 := k_X3_row l g u y S (xs (i + 1))
  rw [show f_X3_row S (xs (i + 1)) = (r, S2) from Option.some.inj h1] at q1
  unfold LGo
  refine g_aload_n C dL_law_1314 rfl 1315 rfl ?_
  refine g_sarg C hX hbl hbA (i := i) rfl rfl 1 rfl (by omega) hL dL_law_1315 dL_law_1316 dL_law_1317 dL_law_1318 dL_law_1319 1320 rfl ?_
  refine g_callI C (rn_V C q1 (cwV 1 C.1.2.2.2.2 (gdLV wl_901 wl_898 wl_899 wl_900 wl_2) rfl rfl rfl hd_X3_row ⟨Nat.le_of_ble_eq_true rfl, Nat.le_of_ble_eq_true rfl⟩) 0 rfl rfl _ ap_C1 rg_n rfl rfl (Nat.le_of_ble_eq_true rfl) ⟨Nat.le_of_ble_eq_true rfl, Nat.le_of_ble_eq_true rfl⟩ dL_law_1320) (wC g u y S2 ++ wM g d M) (ap_P1 (wC_len.trans wC_len.symm)) (rg_len (wC_len.trans wC_len.symm)) 1323 rfl ?_
  refine g_aload_n C dL_law_1323 rfl 1324 rfl ?_
  refine g_sarg C hX hbl hbA (i := i) rfl rfl 1 rfl (by omega) hL dL_law_1324 dL_law_1325 dL_law_1326 dL_law_1327 dL_law_1328 1329 rfl ?_
  refine g_callI C (rn_V C (k_X4_row l g d M (xs (i + 1)) (0 + 200) (r, M2) h2) (cwV 1 C.1.2.2.2.2 (gdLV wl_905 wl_902 wl_903 wl_904 wl_5) rfl rfl rfl hd_X4_row ⟨Nat.le_of_ble_eq_true rfl, Nat.le_of_ble_eq_true rfl⟩) 45 rfl rfl _ (ap_C2 wC_len) nd_M rfl rfl (Nat.le_of_ble_eq_true rfl) ⟨Nat.le_of_ble_eq_true rfl, Nat.le_of_ble_eq_true rfl⟩ dL_law_1329) (wC g u y S2 ++ wM g d M2) (ap_P2 wC_len (wM_len.trans wM_len.symm)) (ln_M (wM_len.trans wM_len.symm)) 1332 rfl ?_
  exact g_icmp_eqT C dL_law_1332 rfl 1465 rfl (kk y S2 M2 R2)
theorem law_38 (C : Cx p s m args c g A cL_law 4 wsL_law RL) {b L : Nat} {xs : Nat → Int32} (hX : va_X b L xs s s.heap) (hbl : b < s.heap.size) (hbA : ¬ A b) {i : Nat} (hi : i + 5 ≤ L) (hL : L ≤ 2560) {u d : Nat → Nat} {y : Nat → Nat → Nat} {S M : ST} (R : Rel S M) (kk : ∀ y2 S2 M2, Rel S2 M2 → LGo p l e s m args below meth c Q g A u d b i 1465 y2 S2 M2) : LGo p l e s m args below meth c Q g A u d b i 1337 y S M := by
  obtain ⟨r, S2, M2, h1, h2, R2⟩ := o_judge R 0
  unfold LGo
  refine g_aload_n C dL_law_1337 rfl 1338 rfl ?_
  refine g_callI C (rn_V C (k_X3_judge l g u y S (0 + 200) (r, S2) h1) (cwV 0 C.1.2.2.2.2 (gdLV wl_909 wl_906 wl_907 wl_908 wl_2) rfl rfl rfl hd_X3_judge ⟨Nat.le_of_ble_eq_true rfl, Nat.le_of_ble_eq_true rfl⟩) 0 rfl rfl _ ap_C1 rg_n rfl rfl (Nat.le_of_ble_eq_true rfl) ⟨Nat.le_of_ble_eq_true rfl, Nat.le_of_ble_eq_true rfl⟩ dL_law_1338) (wC g u y S2 ++ wM g d M) (ap_P1 (wC_len.trans wC_len.symm)) (rg_len (wC_len.trans wC_len.symm)) 1341 rfl ?_
  refine g_aload_n C dL_law_1341 rfl 1342 rfl ?_
  refine g_callI C (rn_V C (k_X4_judge l g d M (0 + 200) (r, M2) h2) (cwV 0 C.1.2.2.2.2 (gdLV wl_913 wl_910 wl_911 wl_912 wl_5) rfl rfl rfl hd_X4_judge ⟨Nat.le_of_ble_eq_true rfl, Nat.le_of_ble_eq_true rfl⟩) 45 rfl rfl _ (ap_C2 wC_len) nd_M rfl rfl (Nat.le_of_ble_eq_true rfl) ⟨Nat.le_of_ble_eq_true rfl, Nat.le_of_ble_eq_true rfl⟩ dL_law_1342) (wC g u y S2 ++ wM g d M2) (ap_P2 wC_len (wM_len.trans wM_len.symm)) (ln_M (wM_len.trans wM_len.symm)) 1345 rfl ?_
  exact g_icmp_eqT C dL_law_1345 rfl 1465 rfl (kk y S2 M2 R2)
theorem law_39 (C : Cx p s m args c g A cL_law 4 wsL_law RL) {b L : Nat} {xs : Nat → Int32} (hX : va_X b L xs s s.heap) (hbl : b < s.heap.size) (hbA : ¬ A b) {i : Nat} (hi : i + 5 ≤ L) (hL : L ≤ 2560) {u d : Nat → Nat} {y : Nat → Nat → Nat} {S M : ST} (R : Rel S M) (kk : ∀ y2 S2 M2, Rel S2 M2 → LGo p l e s m args below meth c Q g A u d b i 1465 y2 S2 M2) : LGo p l e s m args below meth c Q g A u d b i 1350 y S M := by
  obtain ⟨r, S2, M2, h1, h2, R2⟩ := o_clear R
  have q1 := k_X3_clear l g u y S
  rw [show f_X3_clear S = (r, S2) from Option.some.inj h1] at q1
  have q2 := k_X4_clear l g d M
  rw [show f_X4_clear M = (r, M2) from Option.some.inj h2] at q2
  unfold LGo
  refine g_aload_n C dL_law_1350 rfl 1351 rfl ?_
  refine g_callI C (rn_V C q1 (cwV 0 C.1.2.2.2.2 (gdLV wl_917 wl_914 wl_915 wl_916 wl_2) rfl rfl rfl hd_X3_clear ⟨Nat.le_of_ble_eq_true rfl, Nat.le_of_ble_eq_true rfl⟩) 0 rfl rfl _ ap_C1 rg_n rfl rfl (Nat.le_of_ble_eq_true rfl) ⟨Nat.le_of_ble_eq_true rfl, Nat.le_of_ble_eq_true rfl⟩ dL_law_1351) (wC g u y S2 ++ wM g d M) (ap_P1 (wC_len.trans wC_len.symm)) (rg_len (wC_len.trans wC_len.symm)) 1354 rfl ?_
  refine g_aload_n C dL_law_1354 rfl 1355 rfl ?_
  refine g_callI C (rn_V C q2 (cwV 0 C.1.2.2.2.2 (gdLV wl_921 wl_918 wl_919 wl_920 wl_5) rfl rfl rfl hd_X4_clear ⟨Nat.le_of_ble_eq_true rfl, Nat.le_of_ble_eq_true rfl⟩) 45 rfl rfl _ (ap_C2 wC_len) nd_M rfl rfl (Nat.le_of_ble_eq_true rfl) ⟨Nat.le_of_ble_eq_true rfl, Nat.le_of_ble_eq_true rfl⟩ dL_law_1355) (wC g u y S2 ++ wM g d M2) (ap_P2 wC_len (wM_len.trans wM_len.symm)) (ln_M (wM_len.trans wM_len.symm)) 1358 rfl ?_
  exact g_icmp_eqT C dL_law_1358 rfl 1465 rfl (kk y S2 M2 R2)
theorem law_40 (C : Cx p s m args c g A cL_law 4 wsL_law RL) {b L : Nat} {xs : Nat → Int32} (hX : va_X b L xs s s.heap) (hbl : b < s.heap.size) (hbA : ¬ A b) {i : Nat} (hi : i + 5 ≤ L) (hL : L ≤ 2560) {u d : Nat → Nat} {y : Nat → Nat → Nat} {S M : ST} (R : Rel S M) (kk : ∀ y2 S2 M2, Rel S2 M2 → LGo p l e s m args below meth c Q g A u d b i 1465 y2 S2 M2) : LGo p l e s m args below meth c Q g A u d b i 1363 y S M := by
  obtain ⟨r, S2, M2, h1, h2, R2⟩ := o_seeds R 0 (xs (i + 1)) (xs (i + 2)) (xs (i + 3)) (xs (i + 4))
  unfold LGo
  refine g_aload_n C dL_law_1363 rfl 1364 rfl ?_
  refine g_sarg C hX hbl hbA (i := i) rfl rfl 1 rfl (by omega) hL dL_law_1364 dL_law_1365 dL_law_1366 dL_law_1367 dL_law_1368 1369 rfl ?_
  refine g_sarg C hX hbl hbA (i := i) rfl rfl 2 rfl (by omega) hL dL_law_1369 dL_law_1370 dL_law_1371 dL_law_1372 dL_law_1373 1374 rfl ?_
  refine g_sarg C hX hbl hbA (i := i) rfl rfl 3 rfl (by omega) hL dL_law_1374 dL_law_1375 dL_law_1376 dL_law_1377 dL_law_1378 1379 rfl ?_
  refine g_sarg C hX hbl hbA (i := i) rfl rfl 4 rfl (by omega) hL dL_law_1379 dL_law_1380 dL_law_1381 dL_law_1382 dL_law_1383 1384 rfl ?_
  refine g_callI C (rn_V C (k_X3_seeds l g u y S (xs (i + 1)) (xs (i + 2)) (xs (i + 3)) (xs (i + 4)) (0 + 200) (r, S2) h1) (cwV 4 C.1.2.2.2.2 (gdLV wl_925 wl_922 wl_923 wl_924 wl_2) rfl rfl rfl hd_X3_seeds ⟨Nat.le_of_ble_eq_true rfl, Nat.le_of_ble_eq_true rfl⟩) 0 rfl rfl _ ap_C1 rg_n rfl rfl (Nat.le_of_ble_eq_true rfl) ⟨Nat.le_of_ble_eq_true rfl, Nat.le_of_ble_eq_true rfl⟩ dL_law_1384) (wC g u y S2 ++ wM g d M) (ap_P1 (wC_len.trans wC_len.symm)) (rg_len (wC_len.trans wC_len.symm)) 1387 rfl ?_
  refine g_aload_n C dL_law_1387 rfl 1388 rfl ?_
  refine g_sarg C hX hbl hbA (i := i) rfl rfl 1 rfl (by omega) hL dL_law_1388 dL_law_1389 dL_law_1390 dL_law_1391 dL_law_1392 1393 rfl ?_
  refine g_sarg C hX hbl hbA (i := i) rfl rfl 2 rfl (by omega) hL dL_law_1393 dL_law_1394 dL_law_1395 dL_law_1396 dL_law_1397 1398 rfl ?_
  refine g_sarg C hX hbl hbA (i := i) rfl rfl 3 rfl (by omega) hL dL_law_1398 dL_law_1399 dL_law_1400 dL_law_1401 dL_law_1402 1403 rfl ?_
  refine g_sarg C hX hbl hbA (i := i) rfl rfl 4 rfl (by omega) hL dL_law_1403 dL_law_1404 dL_law_1405 dL_law_1406 dL_law_1407 1408 rfl ?_
  refine g_callI C (rn_V C (k_X4_seeds l g d M (xs (i + 1)) (xs (i + 2)) (xs (i + 3)) (xs (i + 4)) (0 + 200) (r, M2) h2) (cwV 4 C.1.2.2.2.2 (gdLV wl_938 wl_935 wl_936 wl_937 wl_5) rfl rfl rfl hd_X4_seeds ⟨Nat.le_of_ble_eq_true rfl, Nat.le_of_ble_eq_true rfl⟩) 45 rfl rfl _ (ap_C2 wC_len) nd_M rfl rfl (Nat.le_of_ble_eq_true rfl) ⟨Nat.le_of_ble_eq_true rfl, Nat.le_of_ble_eq_true rfl⟩ dL_law_1408) (wC g u y S2 ++ wM g d M2) (ap_P2 wC_len (wM_len.trans wM_len.symm)) (ln_M (wM_len.trans wM_len.symm)) 1411 rfl ?_
  exact g_icmp_eqT C dL_law_1411 rfl 1465 rfl (kk y S2 M2 R2)
theorem law_41 (C : Cx p s m args c g A cL_law 4 wsL_law RL) {b L : Nat} {xs : Nat → Int32} (hX : va_X b L xs s s.heap) (hbl : b < s.heap.size) (hbA : ¬ A b) {i : Nat} (hi : i + 5 ≤ L) (hL : L ≤ 2560) {u d : Nat → Nat} {y : Nat → Nat → Nat} {S M : ST} (R : Rel S M) (kk : ∀ y2 S2 M2, Rel S2 M2 → LGo p l e s m args below meth c Q g A u d b i 1465 y2 S2 M2) : LGo p l e s m args below meth c Q g A u d b i 1416 y S M := by
  obtain ⟨r, S2, M2, h1, h2, R2⟩ := o_image R 0
  unfold LGo
  refine g_aload_n C dL_law_1416 rfl 1417 rfl ?_
  refine g_callI C (rn_V C (k_X3_image l g u y S (0 + 200) (r, S2) h1) (cwV 0 C.1.2.2.2.2 (gdLV wl_952 wl_949 wl_950 wl_951 wl_2) rfl rfl rfl hd_X3_image ⟨Nat.le_of_ble_eq_true rfl, Nat.le_of_ble_eq_true rfl⟩) 0 rfl rfl _ ap_C1 rg_n rfl rfl (Nat.le_of_ble_eq_true rfl) ⟨Nat.le_of_ble_eq_true rfl, Nat.le_of_ble_eq_true rfl⟩ dL_law_1417) (wC g u y S2 ++ wM g d M) (ap_P1 (wC_len.trans wC_len.symm)) (rg_len (wC_len.trans wC_len.symm)) 1420 rfl ?_
  refine g_aload_n C dL_law_1420 rfl 1421 rfl ?_
  refine g_callI C (rn_V C (k_X4_image l g d M (0 + 200) (r, M2) h2) (cwV 0 C.1.2.2.2.2 (gdLV wl_956 wl_953 wl_954 wl_955 wl_5) rfl rfl rfl hd_X4_image ⟨Nat.le_of_ble_eq_true rfl, Nat.le_of_ble_eq_true rfl⟩) 45 rfl rfl _ (ap_C2 wC_len) nd_M rfl rfl (Nat.le_of_ble_eq_true rfl) ⟨Nat.le_of_ble_eq_true rfl, Nat.le_of_ble_eq_true rfl⟩ dL_law_1421) (wC g u y S2 ++ wM g d M2) (ap_P2 wC_len (wM_len.trans wM_len.symm)) (ln_M (wM_len.trans wM_len.symm)) 1424 rfl ?_
  exact g_icmp_eqT C dL_law_1424 rfl 1465 rfl (kk y S2 M2 R2)
theorem law_42 (C : Cx p s m args c g A cL_law 4 wsL_law RL) {b L : Nat} {xs : Nat → Int32} (hX : va_X b L xs s s.heap) (hbl : b < s.heap.size) (hbA : ¬ A b) {i : Nat} (hi : i + 5 ≤ L) (hL : L ≤ 2560) {u d : Nat → Nat} {y : Nat → Nat → Nat} {S M : ST} (R : Rel S M) (kk : ∀ y2 S2 M2, Rel S2 M2 → LGo p l e s m args below meth c Q g A u d b i 1465 y2 S2 M2) : LGo p l e s m args below meth c Q g A u d b i 1429 y S M := by
  obtain ⟨r, S2, M2, h1, h2, R2⟩ := o_restore R 0
  unfold LGo
  refine g_aload_n C dL_law_1429 rfl 1430 rfl ?_
  refine g_callI C (rn_V C (k_X3_restore l g u y S (0 + 200) (r, S2) h1) (cwV 0 C.1.2.2.2.2 (gdLV wl_961 wl_958 wl_959 wl_960 wl_2) rfl rfl rfl hd_X3_restore ⟨Nat.le_of_ble_eq_true rfl, Nat.le_of_ble_eq_true rfl⟩) 0 rfl rfl _ ap_C1 rg_n rfl rfl (Nat.le_of_ble_eq_true rfl) ⟨Nat.le_of_ble_eq_true rfl, Nat.le_of_ble_eq_true rfl⟩ dL_law_1430) (wC g u y S2 ++ wM g d M) (ap_P1 (wC_len.trans wC_len.symm)) (rg_len (wC_len.trans wC_len.symm)) 1433 rfl ?_
  refine g_aload_n C dL_law_1433 rfl 1434 rfl ?_
  refine g_callI C (rn_V C (k_X4_restore l g d M (0 + 200) (r, M2) h2) (cwV 0 C.1.2.2.2.2 (gdLV wl_965 wl_962 wl_963 wl_964 wl_5) rfl rfl rfl hd_X4_restore ⟨Nat.le_of_ble_eq_true rfl, Nat.le_of_ble_eq_true rfl⟩) 45 rfl rfl _ (ap_C2 wC_len) nd_M rfl rfl (Nat.le_of_ble_eq_true rfl) ⟨Nat.le_of_ble_eq_true rfl, Nat.le_of_ble_eq_true rfl⟩ dL_law_1434) (wC g u y S2 ++ wM g d M2) (ap_P2 wC_len (wM_len.trans wM_len.symm)) (ln_M (wM_len.trans wM_len.symm)) 1437 rfl ?_
  exact g_icmp_eqT C dL_law_1437 rfl 1465 rfl (kk y S2 M2 R2)
theorem law_43 (C : Cx p s m args c g A cL_law 4 wsL_law RL) {b L : Nat} {xs : Nat → Int32} (hX : va_X b L xs s s.heap) (hbl : b < s.heap.size) (hbA : ¬ A b) {i : Nat} (hi : i + 5 ≤ L) (hL : L ≤ 2560) {u d : Nat → Nat} {y : Nat → Nat → Nat} {S M : ST} (R : Rel S M) (kk : ∀ y2 S2 M2, Rel S2 M2 → LGo p l e s m args below meth c Q g A u d b i 1465 y2 S2 M2) : LGo p l e s m args below meth c Q g A u d b i 1442 y S M := by
  obtain ⟨r, h1, h2⟩ := o_count R 0 (xs (i + 1))
  unfold LGo
  refine g_aload_n C dL_law_1442 rfl 1443 rfl ?_
  refine g_sarg C hX hbl hbA (i := i) rfl rfl 1 rfl (by omega) hL dL_law_1443 dL_law_1444 dL_law_1445 dL_law_1446 dL_law_1447 1448 rfl ?_
  refine g_callI C (rn_V C (k_X3_count l g u y S (xs (i + 1)) (0 + 200) r h1) (cwV 1 C.1.2.2.2.2 (gdLV wl_969 wl_966 wl_967 wl_968 wl_2) rfl rfl rfl hd_X3_count ⟨Nat.le_of_ble_eq_true rfl, Nat.le_of_ble_eq_true rfl⟩) 0 rfl rfl _ ap_C1 rg_n rfl rfl (Nat.le_of_ble_eq_true rfl) ⟨Nat.le_of_ble_eq_true rfl, Nat.le_of_ble_eq_true rfl⟩ dL_law_1448) (wC g u y S ++ wM g d M) (ap_P1 (wC_len.trans wC_len.symm)) (rg_len (wC_len.trans wC_len.symm)) 1451 rfl ?_
  refine g_aload_n C dL_law_1451 rfl 1452 rfl ?_
  refine g_sarg C hX hbl hbA (i := i) rfl rfl 1 rfl (by omega) hL dL_law_1452 dL_law_1453 dL_law_1454 dL_law_1455 dL_law_1456 1457 rfl ?_
  refine g_callI C (rn_V C (k_X4_count l g d M (xs (i + 1)) (0 + 200) r h2) (cwV 1 C.1.2.2.2.2 (gdLV wl_976 wl_973 wl_974 wl_975 wl_5) rfl rfl rfl hd_X4_count ⟨Nat.le_of_ble_eq_true rfl, Nat.le_of_ble_eq_true rfl⟩) 45 rfl rfl _ (ap_C2 wC_len) nd_M rfl rfl (Nat.le_of_ble_eq_true rfl) ⟨Nat.le_of_ble_eq_true rfl, Nat.le_of_ble_eq_true rfl⟩ dL_law_1457) (wC g u y S ++ wM g d M) (ap_P2 wC_len (wM_len.trans wM_len.symm)) (ln_M (wM_len.trans wM_len.symm)) 1460 rfl ?_
  exact g_icmp_eqT C dL_law_1460 rfl 1465 rfl (kk y S M R)
end
