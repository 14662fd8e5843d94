section LAW
variable {Q : Option Value → xM → Prop} {b x m L sz sl : Nat} {S : Int → Int} {σ : xM} {st : List Value} {i : Int}
abbrev LwS (b x m : Nat) (i : Int) : xL := [(0, .ref b), (1, .ref x), (2, .ref m), (3, .int (iz i))]
abbrev wpL (Q : Option Value → xM → Prop) (f : Nat × xL × List Value × xM) : Prop := wpE (xget cd_L) (xev xT 200) Q f
/-- the script: L ints S at the cell b -/
def ScR (σ : xM) (b L : Nat) (S : Int → Int) : Prop := kd σ b = 40 ∧ ln σ b = L ∧ ∀ j : Nat, xi σ b j = iz (S j)
/-- the memory between two calls: script at b, object at x, model at m -/
def LwI (σ : xM) (b x m L : Nat) (S : Int → Int) (sz sl : Nat) : Prop := ∃ (W : gW) (P : Nat → Int → Nat) (A : Nat → Int → Int), σ = Wm W A P ∧ Sta W P A ∧ (lo W 540 = b ∧ lo W 0 = x ∧ lo W 1000 = m) ∧ (gK W 540 = 40 ∧ gL W 540 = L) ∧ A 540 = S ∧ gsz W ≤ sz ∧ gsl W ≤ sl
theorem scr_W {W : gW} {P : Nat → Int → Nat} {A : Nat → Int → Int} (hW : HW W) (e : lo W 540 = b) (k : gK W 540 = 40 ∧ gL W 540 = L) (hA : A 540 = S) : ScR (Wm W A P) b L S := by
  subst e
  have h0 : ¬ gK W 540 = 0 := by rw [k.1]; decide
  exact ⟨wk_kd hW (by decide) k.1, by rw [wk_ln hW h0, k.2], fun j => by rw [wk_xi hW h0, hA]⟩
theorem l_go {ix im : Nat} {as : List Value} (h : LwI σ b x m L S sz sl) (hc : ∀ (W : gW) (P : Nat → Int → Nat) (A : Nat → Int → Int), Sta W P A → Cll ix im as W P A) : ∃ (v : Value) (σ1 σ2 : xM), VIL ix v ∧ kd σ x = 12 ∧ ScR σ b L S ∧ xev xT 200 ix (.ref x :: as) σ (some v) σ1 ∧ ScR σ1 b L S ∧ kd σ1 m = 13 ∧ xev xT 200 im (.ref m :: as) σ1 (some v) σ2 ∧ LwI σ2 b x m L S (sz + 20) (sl + 2000) := by
  obtain ⟨W, P, A, rfl, hS, ⟨e1, e2, e3⟩, hk, hA, g1, g2⟩ := h
  obtain ⟨v, W', P', A', A2, hv, hx, hm, hS2, k2, k1, g3, g4⟩ := hc W P A hS
  rw [e2] at hx
  rw [k2.1.2.1, e3] at hm
  have hW2 := hS2.1
  refine ⟨v, _, _, hv, by rw [← e2]; exact wk_kd hS.1 (by decide) (st_k hS.2.2.1 0 12 (by decide)), scr_W hS.1 e1 hk hA, xev_le (by decide) hx, scr_W hW2 (by rw [k2.1.2.2, e1]) (by rw [k2.2.1.1, k2.2.1.2]; exact hk) (by rw [k1.2.2]; exact hA), ?_, xev_le (by decide) hm, W', P', A2, rfl, hS2, ⟨by rw [k2.1.2.2, e1], by rw [k2.1.1, e2], by rw [k2.1.2.1, e3]⟩, by rw [k2.2.1.1, k2.2.1.2]; exact hk, by rw [k2.2.2]; exact hA, by omega, by omega⟩
  rw [← e3, ← k2.1.2.1]
  exact wk_kd hW2 (by decide) (hS2.2.2.2.2.mod.1 0 (by decide)).2.1
theorem l_arg {k : Int} (hs : ScR σ b L S) (hi : 0 ≤ i ∧ i + 6 ≤ L ∧ L ≤ 3072) (hk : 0 ≤ k ∧ k < 6) {v : Int32} (hv : v = iz k) {p p1 p2 p3 p4 p5 : Nat} (c0 : xget cd_L p = oAld 0 p1) (c1 : xget cd_L p1 = oIld 3 p2) (c2 : xget cd_L p2 = oPush (.int v) p3) (c3 : xget cd_L p3 = oBin (fun x y => x + y) p4) (c4 : xget cd_L p4 = oAldi 40 p5) (h : wpL Q (p5, LwS b x m i, .int (iz (S (i + k))) :: st, σ)) : wpL Q (p, LwS b x m i, st, σ) := by
  subst hv
  refine p_ald (cc3 c0) rfl ?_
  refine p_ild (cc3 c1) rfl ?_
  refine p_push (cc3 c2) ?_
  refine p_bin (cc3 c3) ?_
  show wpL Q (p4, LwS b x m i, .int (iz i + iz k) :: .ref b :: st, σ)
  rw [iz_add]
  refine p_aldi (cc3 c4) hs.1 (by rw [hs.2.1]; exact iz_in (by omega) (by omega) (by omega)) ?_ h
  rw [iz_nat ⟨by omega, by omega⟩, hs.2.2, Int.toNat_of_nonneg (by omega)]
theorem l_arg0 (hs : ScR σ b L S) (hi : 0 ≤ i ∧ i + 6 ≤ L ∧ L ≤ 3072) {p p1 p2 p3 : Nat} (c0 : xget cd_L p = oAld 0 p1) (c1 : xget cd_L p1 = oIld 3 p2) (c4 : xget cd_L p2 = oAldi 40 p3) (h : wpL Q (p3, LwS b x m i, .int (iz (S i)) :: st, σ)) : wpL Q (p, LwS b x m i, st, σ) := by
  refine p_ald (cc3 c0) rfl ?_
  refine p_ild (cc3 c1) rfl ?_
  refine p_aldi (cc3 c4) hs.1 (by rw [hs.2.1]; exact iz_in (by omega) (by omega) (by omega)) ?_ h
  rw [iz_nat ⟨by omega, by omega⟩, hs.2.2, Int.toNat_of_nonneg (by omega)]
abbrev l_bo (a : Int) : Int := if a = 0 then 0 else 1
theorem l_bool {a : Int} (ha : Rg a) {ls : xL} {p p1 p2 p3 p4 : Nat} (c0 : xget cd_L p = oIf (fun x => x = 0) p1 p2) (c1 : xget cd_L p2 = oPush (.int (1)) p3) (c2 : xget cd_L p3 = oGoto p4) (c3 : xget cd_L p1 = oPush (.int (0)) p4) (h : wpL Q (p4, ls, .int (iz (l_bo a)) :: st, σ)) : wpL Q (p, ls, .int (iz a) :: st, σ) := by
  have e : iz a = 0 ↔ a = 0 := iz_inj (y := 0) ha (by decide)
  refine p_if (cc3 c0) (fun z => ?_) (fun z => ?_)
  · refine p_push (cc3 c3) ?_
    rw [show l_bo a = 0 from if_pos (e.mp z)] at h
    exact h
  · refine p_push (cc3 c1) (p_goto (cc3 c2) ?_)
    rw [show l_bo a = 1 from if_neg (fun q => z (e.mpr q))] at h
    exact h
abbrev l_lo (a c : Int) : Int64 := ((iz a).toInt64 <<< ((32 : Int32).toInt64 &&& 63)) ||| ((iz c).toInt64 &&& 4294967295)
theorem rg_bo {a : Int} : Rg (l_bo a) := by unfold l_bo; split <;> decide
theorem l_cmp (w : Int64) : lg_cmp w w = 0 := by
  unfold lg_cmp
  simp
theorem lw_c0 (h : LwI σ b x m L S sz sl) (hi : 0 ≤ i ∧ i + 6 ≤ L ∧ L ≤ 3072) (hS : ∀ j, Rg (S j)) (hN : ∀ σ', LwI σ' b x m L S (sz + 20) (sl + 2000) → wpL Q (1157, LwS b x m i, [], σ')) : wpL Q (160, LwS b x m i, [], σ) := by
  obtain ⟨v, σ1, σ2, hv, k1, s1, x1, s2, k2, x2, h2⟩ := l_go (ix := 37) (im := 128) (as := [.int (iz (S (i + 1))), .long (l_lo (S (i + 2)) (S (i + 3)))]) h (fun W P A hh => cl_0 hh (x1 := S (i + 1)) (w2 := l_lo (S (i + 2)) (S (i + 3))) (hS _))
  refine p_ald (cc3 cL_160) rfl ?_
  refine l_arg s1 hi (k := 1) (by decide) (by decide) cL_161 cL_162 cL_163 cL_164 cL_165 ?_
  refine l_arg s1 hi (k := 2) (by decide) (by decide) cL_166 cL_167 cL_168 cL_169 cL_170 ?_
  refine p_i2l (cc3 cL_171) ?_
  refine p_push (cc3 cL_172) ?_
  refine p_shL (cc3 cL_174) ?_
  refine l_arg s1 hi (k := 3) (by decide) (by decide) cL_175 cL_176 cL_177 cL_178 cL_179 ?_
  refine p_i2l (cc3 cL_180) ?_
  refine p_push (cc3 cL_181) ?_
  refine p_binL (cc3 cL_184) ?_
  refine p_binL (cc3 cL_185) ?_
  refine p_callV (cc3 cL_186) (Nat.le_of_ble_eq_true rfl) rfl rfl (Nat.le_of_ble_eq_true rfl) k1 x1 ?_
  obtain ⟨hz, w, rfl⟩ | ⟨hz, w, rfl⟩ := hv
  · refine p_ald (cc3 cL_189) rfl ?_
    refine l_arg s2 hi (k := 1) (by decide) (by decide) cL_190 cL_191 cL_192 cL_193 cL_194 ?_
    refine l_arg s2 hi (k := 2) (by decide) (by decide) cL_195 cL_196 cL_197 cL_198 cL_199 ?_
    refine p_i2l (cc3 cL_200) ?_
    refine p_push (cc3 cL_201) ?_
    refine p_shL (cc3 cL_203) ?_
    refine l_arg s2 hi (k := 3) (by decide) (by decide) cL_204 cL_205 cL_206 cL_207 cL_208 ?_
    refine p_i2l (cc3 cL_209) ?_
    refine p_push (cc3 cL_210) ?_
    refine p_binL (cc3 cL_213) ?_
    refine p_binL (cc3 cL_214) ?_
    refine p_callV (cc3 cL_215) (Nat.le_of_ble_eq_true rfl) rfl rfl (Nat.le_of_ble_eq_true rfl) k2 x2 ?_
    exact p_icmp (cc3 cL_218) (fun _ => hN _ h2) (fun z => absurd rfl z)
  · exact absurd hz (by decide)
theorem lw_c1 (h : LwI σ b x m L S sz sl) (hi : 0 ≤ i ∧ i + 6 ≤ L ∧ L ≤ 3072) (hS : ∀ j, Rg (S j)) (hN : ∀ σ', LwI σ' b x m L S (sz + 20) (sl + 2000) → wpL Q (1157, LwS b x m i, [], σ')) : wpL Q (223, LwS b x m i, [], σ) := by
  obtain ⟨v, σ1, σ2, hv, k1, s1, x1, s2, k2, x2, h2⟩ := l_go (ix := 38) (im := 130) (as := []) h (fun W P A hh => cl_1 hh)
  refine p_ald (cc3 cL_223) rfl ?_
  refine p_callV (cc3 cL_224) (Nat.le_of_ble_eq_true rfl) rfl rfl (Nat.le_of_ble_eq_true rfl) k1 x1 ?_
  obtain ⟨hz, w, rfl⟩ | ⟨hz, w, rfl⟩ := hv
  · refine p_ald (cc3 cL_227) rfl ?_
    refine p_callV (cc3 cL_228) (Nat.le_of_ble_eq_true rfl) rfl rfl (Nat.le_of_ble_eq_true rfl) k2 x2 ?_
    exact p_icmp (cc3 cL_231) (fun _ => hN _ h2) (fun z => absurd rfl z)
  · exact absurd hz (by decide)
theorem lw_c2 (h : LwI σ b x m L S sz sl) (hi : 0 ≤ i ∧ i + 6 ≤ L ∧ L ≤ 3072) (hS : ∀ j, Rg (S j)) (hN : ∀ σ', LwI σ' b x m L S (sz + 20) (sl + 2000) → wpL Q (1157, LwS b x m i, [], σ')) : wpL Q (236, LwS b x m i, [], σ) := by
  obtain ⟨v, σ1, σ2, hv, k1, s1, x1, s2, k2, x2, h2⟩ := l_go (ix := 45) (im := 134) (as := [.int (iz (S (i + 1))), .int (iz (S (i + 2)))]) h (fun W P A hh => cl_2 hh (x1 := S (i + 1)) (x2 := S (i + 2)) ⟨hS _, hS _⟩)
  refine p_ald (cc3 cL_236) rfl ?_
  refine l_arg s1 hi (k := 1) (by decide) (by decide) cL_237 cL_238 cL_239 cL_240 cL_241 ?_
  refine l_arg s1 hi (k := 2) (by decide) (by decide) cL_242 cL_243 cL_244 cL_245 cL_246 ?_
  refine p_callV (cc3 cL_247) (Nat.le_of_ble_eq_true rfl) rfl rfl (Nat.le_of_ble_eq_true rfl) k1 x1 ?_
  obtain ⟨hz, w, rfl⟩ | ⟨hz, w, rfl⟩ := hv
  · refine p_ald (cc3 cL_250) rfl ?_
    refine l_arg s2 hi (k := 1) (by decide) (by decide) cL_251 cL_252 cL_253 cL_254 cL_255 ?_
    refine l_arg s2 hi (k := 2) (by decide) (by decide) cL_256 cL_257 cL_258 cL_259 cL_260 ?_
    refine p_callV (cc3 cL_261) (Nat.le_of_ble_eq_true rfl) rfl rfl (Nat.le_of_ble_eq_true rfl) k2 x2 ?_
    exact p_icmp (cc3 cL_264) (fun _ => hN _ h2) (fun z => absurd rfl z)
  · exact absurd hz (by decide)
theorem lw_c3 (h : LwI σ b x m L S sz sl) (hi : 0 ≤ i ∧ i + 6 ≤ L ∧ L ≤ 3072) (hS : ∀ j, Rg (S j)) (hN : ∀ σ', LwI σ' b x m L S (sz + 20) (sl + 2000) → wpL Q (1157, LwS b x m i, [], σ')) : wpL Q (269, LwS b x m i, [], σ) := by
  obtain ⟨v, σ1, σ2, hv, k1, s1, x1, s2, k2, x2, h2⟩ := l_go (ix := 47) (im := 136) (as := [.int (iz (S (i + 1))), .int (iz (S (i + 2))), .int (iz (S (i + 3)))]) h (fun W P A hh => cl_3 hh (x1 := S (i + 1)) (x2 := S (i + 2)) (x3 := S (i + 3)) ⟨hS _, hS _, hS _⟩)
  refine p_ald (cc3 cL_269) rfl ?_
  refine l_arg s1 hi (k := 1) (by decide) (by decide) cL_270 cL_271 cL_272 cL_273 cL_274 ?_
  refine l_arg s1 hi (k := 2) (by decide) (by decide) cL_275 cL_276 cL_277 cL_278 cL_279 ?_
  refine l_arg s1 hi (k := 3) (by decide) (by decide) cL_280 cL_281 cL_282 cL_283 cL_284 ?_
  refine p_callV (cc3 cL_285) (Nat.le_of_ble_eq_true rfl) rfl rfl (Nat.le_of_ble_eq_true rfl) k1 x1 ?_
  obtain ⟨hz, w, rfl⟩ | ⟨hz, w, rfl⟩ := hv
  · refine p_ald (cc3 cL_288) rfl ?_
    refine l_arg s2 hi (k := 1) (by decide) (by decide) cL_289 cL_290 cL_291 cL_292 cL_293 ?_
    refine l_arg s2 hi (k := 2) (by decide) (by decide) cL_294 cL_295 cL_296 cL_297 cL_298 ?_
    refine l_arg s2 hi (k := 3) (by decide) (by decide) cL_299 cL_300 cL_301 cL_302 cL_303 ?_
    refine p_callV (cc3 cL_304) (Nat.le_of_ble_eq_true rfl) rfl rfl (Nat.le_of_ble_eq_true rfl) k2 x2 ?_
    exact p_icmp (cc3 cL_307) (fun _ => hN _ h2) (fun z => absurd rfl z)
  · exact absurd hz (by decide)
theorem lw_c4 (h : LwI σ b x m L S sz sl) (hi : 0 ≤ i ∧ i + 6 ≤ L ∧ L ≤ 3072) (hS : ∀ j, Rg (S j)) (hN : ∀ σ', LwI σ' b x m L S (sz + 20) (sl + 2000) → wpL Q (1157, LwS b x m i, [], σ')) : wpL Q (312, LwS b x m i, [], σ) := by
  obtain ⟨v, σ1, σ2, hv, k1, s1, x1, s2, k2, x2, h2⟩ := l_go (ix := 49) (im := 138) (as := [.int (iz (S (i + 1))), .int (iz (S (i + 2)))]) h (fun W P A hh => cl_4 hh (x1 := S (i + 1)) (x2 := S (i + 2)) ⟨hS _, hS _⟩)
  refine p_ald (cc3 cL_312) rfl ?_
  refine l_arg s1 hi (k := 1) (by decide) (by decide) cL_313 cL_314 cL_315 cL_316 cL_317 ?_
  refine l_arg s1 hi (k := 2) (by decide) (by decide) cL_318 cL_319 cL_320 cL_321 cL_322 ?_
  refine p_callV (cc3 cL_323) (Nat.le_of_ble_eq_true rfl) rfl rfl (Nat.le_of_ble_eq_true rfl) k1 x1 ?_
  obtain ⟨hz, w, rfl⟩ | ⟨hz, w, rfl⟩ := hv
  · refine p_ald (cc3 cL_326) rfl ?_
    refine l_arg s2 hi (k := 1) (by decide) (by decide) cL_327 cL_328 cL_329 cL_330 cL_331 ?_
    refine l_arg s2 hi (k := 2) (by decide) (by decide) cL_332 cL_333 cL_334 cL_335 cL_336 ?_
    refine p_callV (cc3 cL_337) (Nat.le_of_ble_eq_true rfl) rfl rfl (Nat.le_of_ble_eq_true rfl) k2 x2 ?_
    exact p_icmp (cc3 cL_340) (fun _ => hN _ h2) (fun z => absurd rfl z)
  · exact absurd hz (by decide)
theorem lw_c5 (h : LwI σ b x m L S sz sl) (hi : 0 ≤ i ∧ i + 6 ≤ L ∧ L ≤ 3072) (hS : ∀ j, Rg (S j)) (hN : ∀ σ', LwI σ' b x m L S (sz + 20) (sl + 2000) → wpL Q (1157, LwS b x m i, [], σ')) : wpL Q (345, LwS b x m i, [], σ) := by
  obtain ⟨v, σ1, σ2, hv, k1, s1, x1, s2, k2, x2, h2⟩ := l_go (ix := 51) (im := 140) (as := [.int (iz (S (i + 1))), .int (iz (S (i + 2))), .int (iz (S (i + 3)))]) h (fun W P A hh => cl_5 hh (x1 := S (i + 1)) (x2 := S (i + 2)) (x3 := S (i + 3)) ⟨hS _, hS _, hS _⟩)
  refine p_ald (cc3 cL_345) rfl ?_
  refine l_arg s1 hi (k := 1) (by decide) (by decide) cL_346 cL_347 cL_348 cL_349 cL_350 ?_
  refine l_arg s1 hi (k := 2) (by decide) (by decide) cL_351 cL_352 cL_353 cL_354 cL_355 ?_
  refine l_arg s1 hi (k := 3) (by decide) (by decide) cL_356 cL_357 cL_358 cL_359 cL_360 ?_
  refine p_callV (cc3 cL_361) (Nat.le_of_ble_eq_true rfl) rfl rfl (Nat.le_of_ble_eq_true rfl) k1 x1 ?_
  obtain ⟨hz, w, rfl⟩ | ⟨hz, w, rfl⟩ := hv
  · refine p_ald (cc3 cL_364) rfl ?_
    refine l_arg s2 hi (k := 1) (by decide) (by decide) cL_365 cL_366 cL_367 cL_368 cL_369 ?_
    refine l_arg s2 hi (k := 2) (by decide) (by decide) cL_370 cL_371 cL_372 cL_373 cL_374 ?_
    refine l_arg s2 hi (k := 3) (by decide) (by decide) cL_375 cL_376 cL_377 cL_378 cL_379 ?_
    refine p_callV (cc3 cL_380) (Nat.le_of_ble_eq_true rfl) rfl rfl (Nat.le_of_ble_eq_true rfl) k2 x2 ?_
    exact p_icmp (cc3 cL_383) (fun _ => hN _ h2) (fun z => absurd rfl z)
  · exact absurd hz (by decide)
theorem lw_c6 (h : LwI σ b x m L S sz sl) (hi : 0 ≤ i ∧ i + 6 ≤ L ∧ L ≤ 3072) (hS : ∀ j, Rg (S j)) (hN : ∀ σ', LwI σ' b x m L S (sz + 20) (sl + 2000) → wpL Q (1157, LwS b x m i, [], σ')) : wpL Q (388, LwS b x m i, [], σ) := by
  obtain ⟨v, σ1, σ2, hv, k1, s1, x1, s2, k2, x2, h2⟩ := l_go (ix := 52) (im := 141) (as := [.int (iz (S (i + 1))), .int (iz (S (i + 2)))]) h (fun W P A hh => cl_6 hh (x1 := S (i + 1)) (x2 := S (i + 2)) ⟨hS _, hS _⟩)
  refine p_ald (cc3 cL_388) rfl ?_
  refine l_arg s1 hi (k := 1) (by decide) (by decide) cL_389 cL_390 cL_391 cL_392 cL_393 ?_
  refine l_arg s1 hi (k := 2) (by decide) (by decide) cL_394 cL_395 cL_396 cL_397 cL_398 ?_
  refine p_callV (cc3 cL_399) (Nat.le_of_ble_eq_true rfl) rfl rfl (Nat.le_of_ble_eq_true rfl) k1 x1 ?_
  obtain ⟨hz, w, rfl⟩ | ⟨hz, w, rfl⟩ := hv
  · refine p_ald (cc3 cL_402) rfl ?_
    refine l_arg s2 hi (k := 1) (by decide) (by decide) cL_403 cL_404 cL_405 cL_406 cL_407 ?_
    refine l_arg s2 hi (k := 2) (by decide) (by decide) cL_408 cL_409 cL_410 cL_411 cL_412 ?_
    refine p_callV (cc3 cL_413) (Nat.le_of_ble_eq_true rfl) rfl rfl (Nat.le_of_ble_eq_true rfl) k2 x2 ?_
    exact p_icmp (cc3 cL_416) (fun _ => hN _ h2) (fun z => absurd rfl z)
  · exact absurd hz (by decide)
theorem lw_c7 (h : LwI σ b x m L S sz sl) (hi : 0 ≤ i ∧ i + 6 ≤ L ∧ L ≤ 3072) (hS : ∀ j, Rg (S j)) (hN : ∀ σ', LwI σ' b x m L S (sz + 20) (sl + 2000) → wpL Q (1157, LwS b x m i, [], σ')) : wpL Q (421, LwS b x m i, [], σ) := by
  obtain ⟨v, σ1, σ2, hv, k1, s1, x1, s2, k2, x2, h2⟩ := l_go (ix := 53) (im := 142) (as := [.int (iz (S (i + 1))), .int (iz (S (i + 2)))]) h (fun W P A hh => cl_7 hh (x1 := S (i + 1)) (x2 := S (i + 2)) ⟨hS _, hS _⟩)
  refine p_ald (cc3 cL_421) rfl ?_
  refine l_arg s1 hi (k := 1) (by decide) (by decide) cL_422 cL_423 cL_424 cL_425 cL_426 ?_
  refine l_arg s1 hi (k := 2) (by decide) (by decide) cL_427 cL_428 cL_429 cL_430 cL_431 ?_
  refine p_callV (cc3 cL_432) (Nat.le_of_ble_eq_true rfl) rfl rfl (Nat.le_of_ble_eq_true rfl) k1 x1 ?_
  obtain ⟨hz, w, rfl⟩ | ⟨hz, w, rfl⟩ := hv
  · refine p_ald (cc3 cL_435) rfl ?_
    refine l_arg s2 hi (k := 1) (by decide) (by decide) cL_436 cL_437 cL_438 cL_439 cL_440 ?_
    refine l_arg s2 hi (k := 2) (by decide) (by decide) cL_441 cL_442 cL_443 cL_444 cL_445 ?_
    refine p_callV (cc3 cL_446) (Nat.le_of_ble_eq_true rfl) rfl rfl (Nat.le_of_ble_eq_true rfl) k2 x2 ?_
    exact p_icmp (cc3 cL_449) (fun _ => hN _ h2) (fun z => absurd rfl z)
  · exact absurd hz (by decide)
theorem lw_c8 (h : LwI σ b x m L S sz sl) (hi : 0 ≤ i ∧ i + 6 ≤ L ∧ L ≤ 3072) (hS : ∀ j, Rg (S j)) (hN : ∀ σ', LwI σ' b x m L S (sz + 20) (sl + 2000) → wpL Q (1157, LwS b x m i, [], σ')) : wpL Q (454, LwS b x m i, [], σ) := by
  obtain ⟨v, σ1, σ2, hv, k1, s1, x1, s2, k2, x2, h2⟩ := l_go (ix := 57) (im := 145) (as := [.int (iz (S (i + 1))), .int (iz (S (i + 2))), .int (iz (S (i + 3))), .int (iz (S (i + 4)))]) h (fun W P A hh => cl_8 hh (x1 := S (i + 1)) (x2 := S (i + 2)) (x3 := S (i + 3)) (x4 := S (i + 4)) ⟨hS _, hS _, hS _, hS _⟩)
  refine p_ald (cc3 cL_454) rfl ?_
  refine l_arg s1 hi (k := 1) (by decide) (by decide) cL_455 cL_456 cL_457 cL_458 cL_459 ?_
  refine l_arg s1 hi (k := 2) (by decide) (by decide) cL_460 cL_461 cL_462 cL_463 cL_464 ?_
  refine l_arg s1 hi (k := 3) (by decide) (by decide) cL_465 cL_466 cL_467 cL_468 cL_469 ?_
  refine l_arg s1 hi (k := 4) (by decide) (by decide) cL_470 cL_471 cL_472 cL_473 cL_474 ?_
  refine p_callV (cc3 cL_475) (Nat.le_of_ble_eq_true rfl) rfl rfl (Nat.le_of_ble_eq_true rfl) k1 x1 ?_
  obtain ⟨hz, w, rfl⟩ | ⟨hz, w, rfl⟩ := hv
  · refine p_ald (cc3 cL_478) rfl ?_
    refine l_arg s2 hi (k := 1) (by decide) (by decide) cL_479 cL_480 cL_481 cL_482 cL_483 ?_
    refine l_arg s2 hi (k := 2) (by decide) (by decide) cL_484 cL_485 cL_486 cL_487 cL_488 ?_
    refine l_arg s2 hi (k := 3) (by decide) (by decide) cL_489 cL_490 cL_491 cL_492 cL_493 ?_
    refine l_arg s2 hi (k := 4) (by decide) (by decide) cL_494 cL_495 cL_496 cL_497 cL_498 ?_
    refine p_callV (cc3 cL_499) (Nat.le_of_ble_eq_true rfl) rfl rfl (Nat.le_of_ble_eq_true rfl) k2 x2 ?_
    exact p_icmp (cc3 cL_502) (fun _ => hN _ h2) (fun z => absurd rfl z)
  · exact absurd hz (by decide)
theorem lw_c9 (h : LwI σ b x m L S sz sl) (hi : 0 ≤ i ∧ i + 6 ≤ L ∧ L ≤ 3072) (hS : ∀ j, Rg (S j)) (hN : ∀ σ', LwI σ' b x m L S (sz + 20) (sl + 2000) → wpL Q (1157, LwS b x m i, [], σ')) : wpL Q (507, LwS b x m i, [], σ) := by
  obtain ⟨v, σ1, σ2, hv, k1, s1, x1, s2, k2, x2, h2⟩ := l_go (ix := 65) (im := 146) (as := [.int (iz (S (i + 1))), .int (iz (S (i + 2)))]) h (fun W P A hh => cl_9 hh (x1 := S (i + 1)) (x2 := S (i + 2)) ⟨hS _, hS _⟩)
  refine p_ald (cc3 cL_507) rfl ?_
  refine l_arg s1 hi (k := 1) (by decide) (by decide) cL_508 cL_509 cL_510 cL_511 cL_512 ?_
  refine l_arg s1 hi (k := 2) (by decide) (by decide) cL_513 cL_514 cL_515 cL_516 cL_517 ?_
  refine p_callV (cc3 cL_518) (Nat.le_of_ble_eq_true rfl) rfl rfl (Nat.le_of_ble_eq_true rfl) k1 x1 ?_
  obtain ⟨hz, w, rfl⟩ | ⟨hz, w, rfl⟩ := hv
  · refine p_ald (cc3 cL_521) rfl ?_
    refine l_arg s2 hi (k := 1) (by decide) (by decide) cL_522 cL_523 cL_524 cL_525 cL_526 ?_
    refine l_arg s2 hi (k := 2) (by decide) (by decide) cL_527 cL_528 cL_529 cL_530 cL_531 ?_
    refine p_callV (cc3 cL_532) (Nat.le_of_ble_eq_true rfl) rfl rfl (Nat.le_of_ble_eq_true rfl) k2 x2 ?_
    exact p_icmp (cc3 cL_535) (fun _ => hN _ h2) (fun z => absurd rfl z)
  · exact absurd hz (by decide)
theorem lw_c10 (h : LwI σ b x m L S sz sl) (hi : 0 ≤ i ∧ i + 6 ≤ L ∧ L ≤ 3072) (hS : ∀ j, Rg (S j)) (hN : ∀ σ', LwI σ' b x m L S (sz + 20) (sl + 2000) → wpL Q (1157, LwS b x m i, [], σ')) : wpL Q (540, LwS b x m i, [], σ) := by
  obtain ⟨v, σ1, σ2, hv, k1, s1, x1, s2, k2, x2, h2⟩ := l_go (ix := 67) (im := 148) (as := [.int (iz (S (i + 1))), .int (iz (S (i + 2)))]) h (fun W P A hh => cl_10 hh (x1 := S (i + 1)) (x2 := S (i + 2)) ⟨hS _, hS _⟩)
  refine p_ald (cc3 cL_540) rfl ?_
  refine l_arg s1 hi (k := 1) (by decide) (by decide) cL_541 cL_542 cL_543 cL_544 cL_545 ?_
  refine l_arg s1 hi (k := 2) (by decide) (by decide) cL_546 cL_547 cL_548 cL_549 cL_550 ?_
  refine p_callV (cc3 cL_551) (Nat.le_of_ble_eq_true rfl) rfl rfl (Nat.le_of_ble_eq_true rfl) k1 x1 ?_
  obtain ⟨hz, w, rfl⟩ | ⟨hz, w, rfl⟩ := hv
  · refine p_ald (cc3 cL_554) rfl ?_
    refine l_arg s2 hi (k := 1) (by decide) (by decide) cL_555 cL_556 cL_557 cL_558 cL_559 ?_
    refine l_arg s2 hi (k := 2) (by decide) (by decide) cL_560 cL_561 cL_562 cL_563 cL_564 ?_
    refine p_callV (cc3 cL_565) (Nat.le_of_ble_eq_true rfl) rfl rfl (Nat.le_of_ble_eq_true rfl) k2 x2 ?_
    exact p_icmp (cc3 cL_568) (fun _ => hN _ h2) (fun z => absurd rfl z)
  · exact absurd hz (by decide)
theorem lw_c11 (h : LwI σ b x m L S sz sl) (hi : 0 ≤ i ∧ i + 6 ≤ L ∧ L ≤ 3072) (hS : ∀ j, Rg (S j)) (hN : ∀ σ', LwI σ' b x m L S (sz + 20) (sl + 2000) → wpL Q (1157, LwS b x m i, [], σ')) : wpL Q (573, LwS b x m i, [], σ) := by
  obtain ⟨v, σ1, σ2, hv, k1, s1, x1, s2, k2, x2, h2⟩ := l_go (ix := 86) (im := 159) (as := [.int (iz (S (i + 1))), .int (iz (S (i + 2)))]) h (fun W P A hh => cl_11 hh (x1 := S (i + 1)) (x2 := S (i + 2)) ⟨hS _, hS _⟩)
  refine p_ald (cc3 cL_573) rfl ?_
  refine l_arg s1 hi (k := 1) (by decide) (by decide) cL_574 cL_575 cL_576 cL_577 cL_578 ?_
  refine l_arg s1 hi (k := 2) (by decide) (by decide) cL_579 cL_580 cL_581 cL_582 cL_583 ?_
  refine p_callV (cc3 cL_584) (Nat.le_of_ble_eq_true rfl) rfl rfl (Nat.le_of_ble_eq_true rfl) k1 x1 ?_
  obtain ⟨hz, w, rfl⟩ | ⟨hz, w, rfl⟩ := hv
  · refine p_ald (cc3 cL_587) rfl ?_
    refine l_arg s2 hi (k := 1) (by decide) (by decide) cL_588 cL_589 cL_590 cL_591 cL_592 ?_
    refine l_arg s2 hi (k := 2) (by decide) (by decide) cL_593 cL_594 cL_595 cL_596 cL_597 ?_
    refine p_callV (cc3 cL_598) (Nat.le_of_ble_eq_true rfl) rfl rfl (Nat.le_of_ble_eq_true rfl) k2 x2 ?_
    exact p_icmp (cc3 cL_601) (fun _ => hN _ h2) (fun z => absurd rfl z)
  · exact absurd hz (by decide)
theorem lw_c12 (h : LwI σ b x m L S sz sl) (hi : 0 ≤ i ∧ i + 6 ≤ L ∧ L ≤ 3072) (hS : ∀ j, Rg (S j)) (hN : ∀ σ', LwI σ' b x m L S (sz + 20) (sl + 2000) → wpL Q (1157, LwS b x m i, [], σ')) : wpL Q (606, LwS b x m i, [], σ) := by
  obtain ⟨v, σ1, σ2, hv, k1, s1, x1, s2, k2, x2, h2⟩ := l_go (ix := 87) (im := 161) (as := [.int (iz (S (i + 1))), .int (iz (S (i + 2))), .int (iz (S (i + 3)))]) h (fun W P A hh => cl_12 hh (x1 := S (i + 1)) (x2 := S (i + 2)) (x3 := S (i + 3)) ⟨hS _, hS _, hS _⟩)
  refine p_ald (cc3 cL_606) rfl ?_
  refine l_arg s1 hi (k := 1) (by decide) (by decide) cL_607 cL_608 cL_609 cL_610 cL_611 ?_
  refine l_arg s1 hi (k := 2) (by decide) (by decide) cL_612 cL_613 cL_614 cL_615 cL_616 ?_
  refine l_arg s1 hi (k := 3) (by decide) (by decide) cL_617 cL_618 cL_619 cL_620 cL_621 ?_
  refine p_callV (cc3 cL_622) (Nat.le_of_ble_eq_true rfl) rfl rfl (Nat.le_of_ble_eq_true rfl) k1 x1 ?_
  obtain ⟨hz, w, rfl⟩ | ⟨hz, w, rfl⟩ := hv
  · refine p_ald (cc3 cL_625) rfl ?_
    refine l_arg s2 hi (k := 1) (by decide) (by decide) cL_626 cL_627 cL_628 cL_629 cL_630 ?_
    refine l_arg s2 hi (k := 2) (by decide) (by decide) cL_631 cL_632 cL_633 cL_634 cL_635 ?_
    refine l_arg s2 hi (k := 3) (by decide) (by decide) cL_636 cL_637 cL_638 cL_639 cL_640 ?_
    refine p_callV (cc3 cL_641) (Nat.le_of_ble_eq_true rfl) rfl rfl (Nat.le_of_ble_eq_true rfl) k2 x2 ?_
    exact p_icmp (cc3 cL_644) (fun _ => hN _ h2) (fun z => absurd rfl z)
  · exact absurd hz (by decide)
theorem lw_c13 (h : LwI σ b x m L S sz sl) (hi : 0 ≤ i ∧ i + 6 ≤ L ∧ L ≤ 3072) (hS : ∀ j, Rg (S j)) (hN : ∀ σ', LwI σ' b x m L S (sz + 20) (sl + 2000) → wpL Q (1157, LwS b x m i, [], σ')) : wpL Q (649, LwS b x m i, [], σ) := by
  obtain ⟨v, σ1, σ2, hv, k1, s1, x1, s2, k2, x2, h2⟩ := l_go (ix := 92) (im := 164) (as := [.int (iz (S (i + 1))), .int (iz (S (i + 2))), .int (iz (l_bo (S (i + 3))))]) h (fun W P A hh => cl_13 hh (x1 := S (i + 1)) (x2 := S (i + 2)) (x3 := l_bo (S (i + 3))) ⟨hS _, hS _, rg_bo⟩)
  refine p_ald (cc3 cL_649) rfl ?_
  refine l_arg s1 hi (k := 1) (by decide) (by decide) cL_650 cL_651 cL_652 cL_653 cL_654 ?_
  refine l_arg s1 hi (k := 2) (by decide) (by decide) cL_655 cL_656 cL_657 cL_658 cL_659 ?_
  refine l_arg s1 hi (k := 3) (by decide) (by decide) cL_660 cL_661 cL_662 cL_663 cL_664 ?_
  refine l_bool (hS _) cL_665 cL_668 cL_669 cL_672 ?_
  refine p_callV (cct cL_673 rfl) (Nat.le_of_ble_eq_true rfl) rfl rfl (Nat.le_of_ble_eq_true rfl) k1 x1 ?_
  obtain ⟨hz, w, rfl⟩ | ⟨hz, w, rfl⟩ := hv
  · refine p_ald (cc3 cL_676) rfl ?_
    refine l_arg s2 hi (k := 1) (by decide) (by decide) cL_677 cL_678 cL_679 cL_680 cL_681 ?_
    refine l_arg s2 hi (k := 2) (by decide) (by decide) cL_682 cL_683 cL_684 cL_685 cL_686 ?_
    refine l_arg s2 hi (k := 3) (by decide) (by decide) cL_687 cL_688 cL_689 cL_690 cL_691 ?_
    refine l_bool (hS _) cL_692 cL_695 cL_696 cL_699 ?_
    refine p_callV (cct cL_700 rfl) (Nat.le_of_ble_eq_true rfl) rfl rfl (Nat.le_of_ble_eq_true rfl) k2 x2 ?_
    exact p_icmp (cc3 cL_703) (fun _ => hN _ h2) (fun z => absurd rfl z)
  · exact absurd hz (by decide)
theorem lw_c14 (h : LwI σ b x m L S sz sl) (hi : 0 ≤ i ∧ i + 6 ≤ L ∧ L ≤ 3072) (hS : ∀ j, Rg (S j)) (hN : ∀ σ', LwI σ' b x m L S (sz + 20) (sl + 2000) → wpL Q (1157, LwS b x m i, [], σ')) : wpL Q (708, LwS b x m i, [], σ) := by
  obtain ⟨v, σ1, σ2, hv, k1, s1, x1, s2, k2, x2, h2⟩ := l_go (ix := 95) (im := 166) (as := [.int (iz (S (i + 1))), .int (iz (l_bo (S (i + 2))))]) h (fun W P A hh => cl_14 hh (x1 := S (i + 1)) (x2 := l_bo (S (i + 2))) ⟨hS _, rg_bo⟩)
  refine p_ald (cc3 cL_708) rfl ?_
  refine l_arg s1 hi (k := 1) (by decide) (by decide) cL_709 cL_710 cL_711 cL_712 cL_713 ?_
  refine l_arg s1 hi (k := 2) (by decide) (by decide) cL_714 cL_715 cL_716 cL_717 cL_718 ?_
  refine l_bool (hS _) cL_719 cL_722 cL_723 cL_726 ?_
  refine p_callV (cct cL_727 rfl) (Nat.le_of_ble_eq_true rfl) rfl rfl (Nat.le_of_ble_eq_true rfl) k1 x1 ?_
  obtain ⟨hz, w, rfl⟩ | ⟨hz, w, rfl⟩ := hv
  · refine p_ald (cc3 cL_730) rfl ?_
    refine l_arg s2 hi (k := 1) (by decide) (by decide) cL_731 cL_732 cL_733 cL_734 cL_735 ?_
    refine l_arg s2 hi (k := 2) (by decide) (by decide) cL_736 cL_737 cL_738 cL_739 cL_740 ?_
    refine l_bool (hS _) cL_741 cL_744 cL_745 cL_748 ?_
    refine p_callV (cct cL_749 rfl) (Nat.le_of_ble_eq_true rfl) rfl rfl (Nat.le_of_ble_eq_true rfl) k2 x2 ?_
    exact p_icmp (cc3 cL_752) (fun _ => hN _ h2) (fun z => absurd rfl z)
  · exact absurd hz (by decide)
theorem lw_c15 (h : LwI σ b x m L S sz sl) (hi : 0 ≤ i ∧ i + 6 ≤ L ∧ L ≤ 3072) (hS : ∀ j, Rg (S j)) (hN : ∀ σ', LwI σ' b x m L S (sz + 20) (sl + 2000) → wpL Q (1157, LwS b x m i, [], σ')) : wpL Q (757, LwS b x m i, [], σ) := by
  obtain ⟨v, σ1, σ2, hv, k1, s1, x1, s2, k2, x2, h2⟩ := l_go (ix := 96) (im := 167) (as := [.int (iz (S (i + 1))), .int (iz (S (i + 2)))]) h (fun W P A hh => cl_15 hh (x1 := S (i + 1)) (x2 := S (i + 2)) ⟨hS _, hS _⟩)
  refine p_ald (cc3 cL_757) rfl ?_
  refine l_arg s1 hi (k := 1) (by decide) (by decide) cL_758 cL_759 cL_760 cL_761 cL_762 ?_
  refine l_arg s1 hi (k := 2) (by decide) (by decide) cL_763 cL_764 cL_765 cL_766 cL_767 ?_
  refine p_callV (cc3 cL_768) (Nat.le_of_ble_eq_true rfl) rfl rfl (Nat.le_of_ble_eq_true rfl) k1 x1 ?_
  obtain ⟨hz, w, rfl⟩ | ⟨hz, w, rfl⟩ := hv
  · refine p_ald (cc3 cL_771) rfl ?_
    refine l_arg s2 hi (k := 1) (by decide) (by decide) cL_772 cL_773 cL_774 cL_775 cL_776 ?_
    refine l_arg s2 hi (k := 2) (by decide) (by decide) cL_777 cL_778 cL_779 cL_780 cL_781 ?_
    refine p_callV (cc3 cL_782) (Nat.le_of_ble_eq_true rfl) rfl rfl (Nat.le_of_ble_eq_true rfl) k2 x2 ?_
    exact p_icmp (cc3 cL_785) (fun _ => hN _ h2) (fun z => absurd rfl z)
  · exact absurd hz (by decide)
theorem lw_c16 (h : LwI σ b x m L S sz sl) (hi : 0 ≤ i ∧ i + 6 ≤ L ∧ L ≤ 3072) (hS : ∀ j, Rg (S j)) (hN : ∀ σ', LwI σ' b x m L S (sz + 20) (sl + 2000) → wpL Q (1157, LwS b x m i, [], σ')) : wpL Q (790, LwS b x m i, [], σ) := by
  obtain ⟨v, σ1, σ2, hv, k1, s1, x1, s2, k2, x2, h2⟩ := l_go (ix := 98) (im := 169) (as := [.int (iz (S (i + 1)))]) h (fun W P A hh => cl_16 hh (x1 := S (i + 1)) (hS _))
  refine p_ald (cc3 cL_790) rfl ?_
  refine l_arg s1 hi (k := 1) (by decide) (by decide) cL_791 cL_792 cL_793 cL_794 cL_795 ?_
  refine p_callV (cc3 cL_796) (Nat.le_of_ble_eq_true rfl) rfl rfl (Nat.le_of_ble_eq_true rfl) k1 x1 ?_
  obtain ⟨hz, w, rfl⟩ | ⟨hz, w, rfl⟩ := hv
  · refine p_ald (cc3 cL_799) rfl ?_
    refine l_arg s2 hi (k := 1) (by decide) (by decide) cL_800 cL_801 cL_802 cL_803 cL_804 ?_
    refine p_callV (cc3 cL_805) (Nat.le_of_ble_eq_true rfl) rfl rfl (Nat.le_of_ble_eq_true rfl) k2 x2 ?_
    exact p_icmp (cc3 cL_808) (fun _ => hN _ h2) (fun z => absurd rfl z)
  · exact absurd hz (by decide)
theorem lw_c17 (h : LwI σ b x m L S sz sl) (hi : 0 ≤ i ∧ i + 6 ≤ L ∧ L ≤ 3072) (hS : ∀ j, Rg (S j)) (hN : ∀ σ', LwI σ' b x m L S (sz + 20) (sl + 2000) → wpL Q (1157, LwS b x m i, [], σ')) : wpL Q (813, LwS b x m i, [], σ) := by
  obtain ⟨v, σ1, σ2, hv, k1, s1, x1, s2, k2, x2, h2⟩ := l_go (ix := 99) (im := 170) (as := []) h (fun W P A hh => cl_17 hh)
  refine p_ald (cc3 cL_813) rfl ?_
  refine p_callV (cc3 cL_814) (Nat.le_of_ble_eq_true rfl) rfl rfl (Nat.le_of_ble_eq_true rfl) k1 x1 ?_
  obtain ⟨hz, w, rfl⟩ | ⟨hz, w, rfl⟩ := hv
  · refine p_ald (cc3 cL_817) rfl ?_
    refine p_callV (cc3 cL_818) (Nat.le_of_ble_eq_true rfl) rfl rfl (Nat.le_of_ble_eq_true rfl) k2 x2 ?_
    exact p_icmp (cc3 cL_821) (fun _ => hN _ h2) (fun z => absurd rfl z)
  · exact absurd hz (by decide)
theorem lw_c18 (h : LwI σ b x m L S sz sl) (hi : 0 ≤ i ∧ i + 6 ≤ L ∧ L ≤ 3072) (hS : ∀ j, Rg (S j)) (hN : ∀ σ', LwI σ' b x m L S (sz + 20) (sl + 2000) → wpL Q (1157, LwS b x m i, [], σ')) : wpL Q (826, LwS b x m i, [], σ) := by
  obtain ⟨v, σ1, σ2, hv, k1, s1, x1, s2, k2, x2, h2⟩ := l_go (ix := 100) (im := 186) (as := [.int (iz (S (i + 1)))]) h (fun W P A hh => cl_18 hh (x1 := S (i + 1)) (hS _))
  refine p_ald (cc3 cL_826) rfl ?_
  refine l_arg s1 hi (k := 1) (by decide) (by decide) cL_827 cL_828 cL_829 cL_830 cL_831 ?_
  refine p_callV (cc3 cL_832) (Nat.le_of_ble_eq_true rfl) rfl rfl (Nat.le_of_ble_eq_true rfl) k1 x1 ?_
  obtain ⟨hz, w, rfl⟩ | ⟨hz, w, rfl⟩ := hv
  · refine p_ald (cc3 cL_835) rfl ?_
    refine l_arg s2 hi (k := 1) (by decide) (by decide) cL_836 cL_837 cL_838 cL_839 cL_840 ?_
    refine p_callV (cc3 cL_841) (Nat.le_of_ble_eq_true rfl) rfl rfl (Nat.le_of_ble_eq_true rfl) k2 x2 ?_
    exact p_icmp (cc3 cL_844) (fun _ => hN _ h2) (fun z => absurd rfl z)
  · exact absurd hz (by decide)
theorem lw_c19 (h : LwI σ b x m L S sz sl) (hi : 0 ≤ i ∧ i + 6 ≤ L ∧ L ≤ 3072) (hS : ∀ j, Rg (S j)) (hN : ∀ σ', LwI σ' b x m L S (sz + 20) (sl + 2000) → wpL Q (1157, LwS b x m i, [], σ')) : wpL Q (849, LwS b x m i, [], σ) := by
  obtain ⟨v, σ1, σ2, hv, k1, s1, x1, s2, k2, x2, h2⟩ := l_go (ix := 101) (im := 187) (as := [.int (iz (S (i + 1))), .int (iz (S (i + 2)))]) h (fun W P A hh => cl_19 hh (x1 := S (i + 1)) (x2 := S (i + 2)) ⟨hS _, hS _⟩)
  refine p_ald (cc3 cL_849) rfl ?_
  refine l_arg s1 hi (k := 1) (by decide) (by decide) cL_850 cL_851 cL_852 cL_853 cL_854 ?_
  refine l_arg s1 hi (k := 2) (by decide) (by decide) cL_855 cL_856 cL_857 cL_858 cL_859 ?_
  refine p_callV (cc3 cL_860) (Nat.le_of_ble_eq_true rfl) rfl rfl (Nat.le_of_ble_eq_true rfl) k1 x1 ?_
  obtain ⟨hz, w, rfl⟩ | ⟨hz, w, rfl⟩ := hv
  · exact absurd rfl hz
  · refine p_ald (cc3 cL_863) rfl ?_
    refine l_arg s2 hi (k := 1) (by decide) (by decide) cL_864 cL_865 cL_866 cL_867 cL_868 ?_
    refine l_arg s2 hi (k := 2) (by decide) (by decide) cL_869 cL_870 cL_871 cL_872 cL_873 ?_
    refine p_callV (cc3 cL_874) (Nat.le_of_ble_eq_true rfl) rfl rfl (Nat.le_of_ble_eq_true rfl) k2 x2 ?_
    refine p_lcmp (cc3 cL_877) ?_
    exact p_if (cc3 cL_878) (fun _ => hN _ h2) (fun z => absurd (l_cmp w) z)
theorem lw_c20 (h : LwI σ b x m L S sz sl) (hi : 0 ≤ i ∧ i + 6 ≤ L ∧ L ≤ 3072) (hS : ∀ j, Rg (S j)) (hN : ∀ σ', LwI σ' b x m L S (sz + 20) (sl + 2000) → wpL Q (1157, LwS b x m i, [], σ')) : wpL Q (883, LwS b x m i, [], σ) := by
  obtain ⟨v, σ1, σ2, hv, k1, s1, x1, s2, k2, x2, h2⟩ := l_go (ix := 107) (im := 190) (as := [.int (iz (S (i + 1)))]) h (fun W P A hh => cl_20 hh (x1 := S (i + 1)) (hS _))
  refine p_ald (cc3 cL_883) rfl ?_
  refine l_arg s1 hi (k := 1) (by decide) (by decide) cL_884 cL_885 cL_886 cL_887 cL_888 ?_
  refine p_callV (cc3 cL_889) (Nat.le_of_ble_eq_true rfl) rfl rfl (Nat.le_of_ble_eq_true rfl) k1 x1 ?_
  obtain ⟨hz, w, rfl⟩ | ⟨hz, w, rfl⟩ := hv
  · refine p_ald (cc3 cL_892) rfl ?_
    refine l_arg s2 hi (k := 1) (by decide) (by decide) cL_893 cL_894 cL_895 cL_896 cL_897 ?_
    refine p_callV (cc3 cL_898) (Nat.le_of_ble_eq_true rfl) rfl rfl (Nat.le_of_ble_eq_true rfl) k2 x2 ?_
    exact p_icmp (cc3 cL_901) (fun _ => hN _ h2) (fun z => absurd rfl z)
  · exact absurd hz (by decide)
theorem lw_c21 (h : LwI σ b x m L S sz sl) (hi : 0 ≤ i ∧ i + 6 ≤ L ∧ L ≤ 3072) (hS : ∀ j, Rg (S j)) (hN : ∀ σ', LwI σ' b x m L S (sz + 20) (sl + 2000) → wpL Q (1157, LwS b x m i, [], σ')) : wpL Q (906, LwS b x m i, [], σ) := by
  obtain ⟨v, σ1, σ2, hv, k1, s1, x1, s2, k2, x2, h2⟩ := l_go (ix := 109) (im := 192) (as := [.int (iz (S (i + 1)))]) h (fun W P A hh => cl_21 hh (x1 := S (i + 1)) (hS _))
  refine p_ald (cc3 cL_906) rfl ?_
  refine l_arg s1 hi (k := 1) (by decide) (by decide) cL_907 cL_908 cL_909 cL_910 cL_911 ?_
  refine p_callV (cc3 cL_912) (Nat.le_of_ble_eq_true rfl) rfl rfl (Nat.le_of_ble_eq_true rfl) k1 x1 ?_
  obtain ⟨hz, w, rfl⟩ | ⟨hz, w, rfl⟩ := hv
  · refine p_ald (cc3 cL_915) rfl ?_
    refine l_arg s2 hi (k := 1) (by decide) (by decide) cL_916 cL_917 cL_918 cL_919 cL_920 ?_
    refine p_callV (cc3 cL_921) (Nat.le_of_ble_eq_true rfl) rfl rfl (Nat.le_of_ble_eq_true rfl) k2 x2 ?_
    exact p_icmp (cc3 cL_924) (fun _ => hN _ h2) (fun z => absurd rfl z)
  · exact absurd hz (by decide)
theorem lw_c22 (h : LwI σ b x m L S sz sl) (hi : 0 ≤ i ∧ i + 6 ≤ L ∧ L ≤ 3072) (hS : ∀ j, Rg (S j)) (hN : ∀ σ', LwI σ' b x m L S (sz + 20) (sl + 2000) → wpL Q (1157, LwS b x m i, [], σ')) : wpL Q (929, LwS b x m i, [], σ) := by
  obtain ⟨v, σ1, σ2, hv, k1, s1, x1, s2, k2, x2, h2⟩ := l_go (ix := 115) (im := 194) (as := [.int (iz (S (i + 1)))]) h (fun W P A hh => cl_22 hh (x1 := S (i + 1)) (hS _))
  refine p_ald (cc3 cL_929) rfl ?_
  refine l_arg s1 hi (k := 1) (by decide) (by decide) cL_930 cL_931 cL_932 cL_933 cL_934 ?_
  refine p_callV (cc3 cL_935) (Nat.le_of_ble_eq_true rfl) rfl rfl (Nat.le_of_ble_eq_true rfl) k1 x1 ?_
  obtain ⟨hz, w, rfl⟩ | ⟨hz, w, rfl⟩ := hv
  · refine p_ald (cc3 cL_938) rfl ?_
    refine l_arg s2 hi (k := 1) (by decide) (by decide) cL_939 cL_940 cL_941 cL_942 cL_943 ?_
    refine p_callV (cc3 cL_944) (Nat.le_of_ble_eq_true rfl) rfl rfl (Nat.le_of_ble_eq_true rfl) k2 x2 ?_
    exact p_icmp (cc3 cL_947) (fun _ => hN _ h2) (fun z => absurd rfl z)
  · exact absurd hz (by decide)
theorem lw_c23 (h : LwI σ b x m L S sz sl) (hi : 0 ≤ i ∧ i + 6 ≤ L ∧ L ≤ 3072) (hS : ∀ j, Rg (S j)) (hN : ∀ σ', LwI σ' b x m L S (sz + 20) (sl + 2000) → wpL Q (1157, LwS b x m i, [], σ')) : wpL Q (952, LwS b x m i, [], σ) := by
  obtain ⟨v, σ1, σ2, hv, k1, s1, x1, s2, k2, x2, h2⟩ := l_go (ix := 116) (im := 195) (as := [.int (iz (S (i + 1)))]) h (fun W P A hh => cl_23 hh (x1 := S (i + 1)) (hS _))
  refine p_ald (cc3 cL_952) rfl ?_
  refine l_arg s1 hi (k := 1) (by decide) (by decide) cL_953 cL_954 cL_955 cL_956 cL_957 ?_
  refine p_callV (cc3 cL_958) (Nat.le_of_ble_eq_true rfl) rfl rfl (Nat.le_of_ble_eq_true rfl) k1 x1 ?_
  obtain ⟨hz, w, rfl⟩ | ⟨hz, w, rfl⟩ := hv
  · refine p_ald (cc3 cL_961) rfl ?_
    refine l_arg s2 hi (k := 1) (by decide) (by decide) cL_962 cL_963 cL_964 cL_965 cL_966 ?_
    refine p_callV (cc3 cL_967) (Nat.le_of_ble_eq_true rfl) rfl rfl (Nat.le_of_ble_eq_true rfl) k2 x2 ?_
    exact p_icmp (cc3 cL_970) (fun _ => hN _ h2) (fun z => absurd rfl z)
  · exact absurd hz (by decide)
theorem lw_c24 (h : LwI σ b x m L S sz sl) (hi : 0 ≤ i ∧ i + 6 ≤ L ∧ L ≤ 3072) (hS : ∀ j, Rg (S j)) (hN : ∀ σ', LwI σ' b x m L S (sz + 20) (sl + 2000) → wpL Q (1157, LwS b x m i, [], σ')) : wpL Q (975, LwS b x m i, [], σ) := by
  obtain ⟨v, σ1, σ2, hv, k1, s1, x1, s2, k2, x2, h2⟩ := l_go (ix := 118) (im := 196) (as := [.int (iz (S (i + 1))), .int (iz (S (i + 2))), .int (iz (S (i + 3)))]) h (fun W P A hh => cl_24 hh (x1 := S (i + 1)) (x2 := S (i + 2)) (x3 := S (i + 3)) ⟨hS _, hS _, hS _⟩)
  refine p_ald (cc3 cL_975) rfl ?_
  refine l_arg s1 hi (k := 1) (by decide) (by decide) cL_976 cL_977 cL_978 cL_979 cL_980 ?_
  refine l_arg s1 hi (k := 2) (by decide) (by decide) cL_981 cL_982 cL_983 cL_984 cL_985 ?_
  refine l_arg s1 hi (k := 3) (by decide) (by decide) cL_986 cL_987 cL_988 cL_989 cL_990 ?_
  refine p_callV (cc3 cL_991) (Nat.le_of_ble_eq_true rfl) rfl rfl (Nat.le_of_ble_eq_true rfl) k1 x1 ?_
  obtain ⟨hz, w, rfl⟩ | ⟨hz, w, rfl⟩ := hv
  · refine p_ald (cc3 cL_994) rfl ?_
    refine l_arg s2 hi (k := 1) (by decide) (by decide) cL_995 cL_996 cL_997 cL_998 cL_999 ?_
    refine l_arg s2 hi (k := 2) (by decide) (by decide) cL_1000 cL_1001 cL_1002 cL_1003 cL_1004 ?_
    refine l_arg s2 hi (k := 3) (by decide) (by decide) cL_1005 cL_1006 cL_1007 cL_1008 cL_1009 ?_
    refine p_callV (cc3 cL_1010) (Nat.le_of_ble_eq_true rfl) rfl rfl (Nat.le_of_ble_eq_true rfl) k2 x2 ?_
    exact p_icmp (cc3 cL_1013) (fun _ => hN _ h2) (fun z => absurd rfl z)
  · exact absurd hz (by decide)
theorem lw_c25 (h : LwI σ b x m L S sz sl) (hi : 0 ≤ i ∧ i + 6 ≤ L ∧ L ≤ 3072) (hS : ∀ j, Rg (S j)) (hN : ∀ σ', LwI σ' b x m L S (sz + 20) (sl + 2000) → wpL Q (1157, LwS b x m i, [], σ')) : wpL Q (1018, LwS b x m i, [], σ) := by
  obtain ⟨v, σ1, σ2, hv, k1, s1, x1, s2, k2, x2, h2⟩ := l_go (ix := 121) (im := 198) (as := [.int (iz (S (i + 1))), .int (iz (S (i + 2))), .int (iz (S (i + 3)))]) h (fun W P A hh => cl_25 hh (x1 := S (i + 1)) (x2 := S (i + 2)) (x3 := S (i + 3)) ⟨hS _, hS _, hS _⟩)
  refine p_ald (cc3 cL_1018) rfl ?_
  refine l_arg s1 hi (k := 1) (by decide) (by decide) cL_1019 cL_1020 cL_1021 cL_1022 cL_1023 ?_
  refine l_arg s1 hi (k := 2) (by decide) (by decide) cL_1024 cL_1025 cL_1026 cL_1027 cL_1028 ?_
  refine l_arg s1 hi (k := 3) (by decide) (by decide) cL_1029 cL_1030 cL_1031 cL_1032 cL_1033 ?_
  refine p_callV (cc3 cL_1034) (Nat.le_of_ble_eq_true rfl) rfl rfl (Nat.le_of_ble_eq_true rfl) k1 x1 ?_
  obtain ⟨hz, w, rfl⟩ | ⟨hz, w, rfl⟩ := hv
  · refine p_ald (cc3 cL_1037) rfl ?_
    refine l_arg s2 hi (k := 1) (by decide) (by decide) cL_1038 cL_1039 cL_1040 cL_1041 cL_1042 ?_
    refine l_arg s2 hi (k := 2) (by decide) (by decide) cL_1043 cL_1044 cL_1045 cL_1046 cL_1047 ?_
    refine l_arg s2 hi (k := 3) (by decide) (by decide) cL_1048 cL_1049 cL_1050 cL_1051 cL_1052 ?_
    refine p_callV (cc3 cL_1053) (Nat.le_of_ble_eq_true rfl) rfl rfl (Nat.le_of_ble_eq_true rfl) k2 x2 ?_
    exact p_icmp (cc3 cL_1056) (fun _ => hN _ h2) (fun z => absurd rfl z)
  · exact absurd hz (by decide)
theorem lw_c26 (h : LwI σ b x m L S sz sl) (hi : 0 ≤ i ∧ i + 6 ≤ L ∧ L ≤ 3072) (hS : ∀ j, Rg (S j)) (hN : ∀ σ', LwI σ' b x m L S (sz + 20) (sl + 2000) → wpL Q (1157, LwS b x m i, [], σ')) : wpL Q (1061, LwS b x m i, [], σ) := by
  obtain ⟨v, σ1, σ2, hv, k1, s1, x1, s2, k2, x2, h2⟩ := l_go (ix := 124) (im := 199) (as := [.int (iz (S (i + 1))), .int (iz (S (i + 2))), .int (iz (S (i + 3))), .int (iz (S (i + 4))), .int (iz (S (i + 5)))]) h (fun W P A hh => cl_26 hh (x1 := S (i + 1)) (x2 := S (i + 2)) (x3 := S (i + 3)) (x4 := S (i + 4)) (x5 := S (i + 5)) ⟨hS _, hS _, hS _, hS _, hS _⟩)
  refine p_ald (cc3 cL_1061) rfl ?_
  refine l_arg s1 hi (k := 1) (by decide) (by decide) cL_1062 cL_1063 cL_1064 cL_1065 cL_1066 ?_
  refine l_arg s1 hi (k := 2) (by decide) (by decide) cL_1067 cL_1068 cL_1069 cL_1070 cL_1071 ?_
  refine l_arg s1 hi (k := 3) (by decide) (by decide) cL_1072 cL_1073 cL_1074 cL_1075 cL_1076 ?_
  refine l_arg s1 hi (k := 4) (by decide) (by decide) cL_1077 cL_1078 cL_1079 cL_1080 cL_1081 ?_
  refine l_arg s1 hi (k := 5) (by decide) (by decide) cL_1082 cL_1083 cL_1084 cL_1085 cL_1086 ?_
  refine p_callV (cc3 cL_1087) (Nat.le_of_ble_eq_true rfl) rfl rfl (Nat.le_of_ble_eq_true rfl) k1 x1 ?_
  obtain ⟨hz, w, rfl⟩ | ⟨hz, w, rfl⟩ := hv
  · refine p_ald (cc3 cL_1090) rfl ?_
    refine l_arg s2 hi (k := 1) (by decide) (by decide) cL_1091 cL_1092 cL_1093 cL_1094 cL_1095 ?_
    refine l_arg s2 hi (k := 2) (by decide) (by decide) cL_1096 cL_1097 cL_1098 cL_1099 cL_1100 ?_
    refine l_arg s2 hi (k := 3) (by decide) (by decide) cL_1101 cL_1102 cL_1103 cL_1104 cL_1105 ?_
    refine l_arg s2 hi (k := 4) (by decide) (by decide) cL_1106 cL_1107 cL_1108 cL_1109 cL_1110 ?_
    refine l_arg s2 hi (k := 5) (by decide) (by decide) cL_1111 cL_1112 cL_1113 cL_1114 cL_1115 ?_
    refine p_callV (cc3 cL_1116) (Nat.le_of_ble_eq_true rfl) rfl rfl (Nat.le_of_ble_eq_true rfl) k2 x2 ?_
    exact p_icmp (cc3 cL_1119) (fun _ => hN _ h2) (fun z => absurd rfl z)
  · exact absurd hz (by decide)
theorem lw_c27 (h : LwI σ b x m L S sz sl) (hi : 0 ≤ i ∧ i + 6 ≤ L ∧ L ≤ 3072) (hS : ∀ j, Rg (S j)) (hN : ∀ σ', LwI σ' b x m L S (sz + 20) (sl + 2000) → wpL Q (1157, LwS b x m i, [], σ')) : wpL Q (1124, LwS b x m i, [], σ) := by
  obtain ⟨v, σ1, σ2, hv, k1, s1, x1, s2, k2, x2, h2⟩ := l_go (ix := 125) (im := 200) (as := [.int (iz (S (i + 1))), .int (iz (S (i + 2)))]) h (fun W P A hh => cl_27 hh (x1 := S (i + 1)) (x2 := S (i + 2)) ⟨hS _, hS _⟩)
  refine p_ald (cc3 cL_1124) rfl ?_
  refine l_arg s1 hi (k := 1) (by decide) (by decide) cL_1125 cL_1126 cL_1127 cL_1128 cL_1129 ?_
  refine l_arg s1 hi (k := 2) (by decide) (by decide) cL_1130 cL_1131 cL_1132 cL_1133 cL_1134 ?_
  refine p_callV (cc3 cL_1135) (Nat.le_of_ble_eq_true rfl) rfl rfl (Nat.le_of_ble_eq_true rfl) k1 x1 ?_
  obtain ⟨hz, w, rfl⟩ | ⟨hz, w, rfl⟩ := hv
  · refine p_ald (cc3 cL_1138) rfl ?_
    refine l_arg s2 hi (k := 1) (by decide) (by decide) cL_1139 cL_1140 cL_1141 cL_1142 cL_1143 ?_
    refine l_arg s2 hi (k := 2) (by decide) (by decide) cL_1144 cL_1145 cL_1146 cL_1147 cL_1148 ?_
    refine p_callV (cc3 cL_1149) (Nat.le_of_ble_eq_true rfl) rfl rfl (Nat.le_of_ble_eq_true rfl) k2 x2 ?_
    exact p_icmp (cc3 cL_1152) (fun _ => hN _ h2) (fun z => absurd rfl z)
  · exact absurd hz (by decide)
end LAW
