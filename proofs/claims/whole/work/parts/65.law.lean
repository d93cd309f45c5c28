/-! THE LAW: the script is an old row of ints -/
def SCR (κ : gm_K) (L : Nat) (xs : Nat → Int32) : Prop := κ.2.2.2.2.1 1000 < κ.2.2.2.1 ∧ ∀ U, κ.2.2.2.2.2 U → va_X (κ.2.2.2.2.1 1000) L xs U U.heap
section LW
variable {κ : gm_K} {μ : gm_M} {pc : Nat} {lv : List (Option Value)} {st : List Value} {h : gm_H} {n : Nat × Nat} {Φ : Option Value → gm_H → Prop} {L : Nat} {xs : Nat → Int32}
theorem go_slen (hX : SCR κ L xs) (hd : decode μ.2.1 pc = .ok (.arraylength, 1)) (kk : Go κ μ (pc + 1) lv (.int (nI L) :: st) h n Φ) : Go κ μ pc lv (.retAddr 1000 :: st) h n Φ := by
  intro p e s m args below meth c H locs ls F R L'
  exact va_slen F.1 F.2.1 (hX.2 s F.2.2.2.2.2.2.2.2.1.2.2.1) (Nat.lt_of_lt_of_le hX.1 F.2.2.2.2.2.2.2.2.2) (Nat.not_le.mpr hX.1) R.2 hd (kk p e s m args below meth c H locs ls F R L')
theorem go_sld {j : Nat} (hX : SCR κ L xs) (hd : decode μ.2.1 pc = .ok (.iaload, 1)) (hj : j < L) (hL : L ≤ 2560) (kk : Go κ μ (pc + 1) lv (.int (xs j) :: st) h n Φ) : Go κ μ pc lv (.int (nI j) :: .retAddr 1000 :: st) h n Φ := by
  intro p e s m args below meth c H locs ls F R L'
  have ej : (nI j).toNatClampNeg = j := nI_clamp (by omega)
  refine va_sld F.1 F.2.1 (hX.2 s F.2.2.2.2.2.2.2.2.1.2.2.1) (Nat.lt_of_lt_of_le hX.1 F.2.2.2.2.2.2.2.2.2) (Nat.not_le.mpr hX.1) R.2 (vp_in_nI hj (by omega)) hd ?_
  rw [ej]
  exact kk p e s m args below meth c H locs ls F R L'
/-- a call on the class, with what the reference will answer -/
theorem go_b1 {μ₁ μ₂ : gm_M} {av stk : List Value} {idx k : Nat} {b : Bool} {σ : wg_S} (hB : Both κ μ₁ μ₂ av) (hz : zS σ) (hd : decode μ.2.1 pc = .ok (.invokevirtual idx, 3)) (hw : gm_CV μ μ₁ idx k) (hst : stk = av.reverse ++ [.ref 0]) (hci : (vwCl[10]?).map Prod.fst = some μ₁.1.cls) (hk : av.length = k) (hn : (Nat.ble (n.1 + μ₁.2.2.2.2.cells) μ.2.2.2.2.cells && Nat.ble (n.2 + μ₁.2.2.2.2.slots) μ.2.2.2.2.slots) = true)
    (kk : ∀ (x : Int32) (b' : Bool) (τ : wg_S) (Φ₂ : Option Value → gm_H → Prop), Ct κ μ₂ (.ref 47 :: av) (wd (gg b') τ) Φ₂ → (∀ q₂ h₂, Φ₂ q₂ h₂ → q₂ = some (.int x) ∧ ∃ υ, h₂ = wd (gg b') υ ∧ zS υ) → Go κ μ (pc + 3) lv [.int x] (wd (gg b') τ) (n.1 + μ₁.2.2.2.2.cells, n.2 + μ₁.2.2.2.2.slots) Φ) : Go κ μ pc lv stk (wd (gg b) σ) n Φ := by
  obtain ⟨x, Φ₁, hC, hq⟩ := hB b σ hz
  refine go_callV (st := []) hd hw hC hst (wd_o (gg_0 b)) hci hk rfl hn (fun r h' hr => ?_)
  obtain ⟨rfl, b', τ, Φ₂, rfl, hC2, hq2⟩ := hq r h' hr
  exact kk x b' τ Φ₂ hC2 hq2
/-- the same call on the reference: the answers are one -/
theorem go_b2 {μ₂ : gm_M} {av stk : List Value} {idx k : Nat} {b : Bool} {τ : wg_S} {x : Int32} {Φ₂ : Option Value → gm_H → Prop} {off : Int} (tgt : Nat) (hC2 : Ct κ μ₂ (.ref 47 :: av) (wd (gg b) τ) Φ₂) (hq2 : ∀ q₂ h₂, Φ₂ q₂ h₂ → q₂ = some (.int x) ∧ ∃ υ, h₂ = wd (gg b) υ ∧ zS υ) (hd : decode μ.2.1 pc = .ok (.invokevirtual idx, 3)) (hw : gm_CV μ μ₂ idx k) (hst : stk = av.reverse ++ .ref 47 :: [.int x]) (hci : (vwCl[11]?).map Prod.fst = some μ₂.1.cls) (hk : av.length = k) (hn : (Nat.ble (n.1 + μ₂.2.2.2.2.cells) μ.2.2.2.2.cells && Nat.ble (n.2 + μ₂.2.2.2.2.slots) μ.2.2.2.2.slots) = true)
    (hde : decode μ.2.1 (pc + 3) = .ok (.if_icmp .eq off, 3)) (ht : ((pc + 3 : Nat) : Int) + off = (tgt : Int)) (kk : ∀ υ, zS υ → Go κ μ tgt lv [] (wd (gg b) υ) (n.1 + μ₂.2.2.2.2.cells, n.2 + μ₂.2.2.2.2.slots) Φ) : Go κ μ pc lv stk (wd (gg b) τ) n Φ := by
  refine go_callV (st := [.int x]) hd hw hC2 hst (wd_o (gg_47 b)) hci hk rfl hn (fun r h' hr => ?_)
  obtain ⟨rfl, υ, rfl, hz⟩ := hq2 r h' hr
  exact go_icmp_eq tgt hde ht (fun _ => kk υ hz) (fun q => absurd rfl q)
end LW
/-- the law's own places while it runs -/
def lwv (t : Nat) : List (Option Value) := [some (.retAddr 1000), some (.ref 0), some (.ref 47), some (.int (nI (5 * t)))]
def lwn (t : Nat) : Nat × Nat := (100 + t, 10000 + 4608 * t)
theorem lwn_c {t c s : Nat} (ht : t < 512) (hc : c ≤ 1) (hs : s ≤ 4608) : (Nat.ble ((lwn t).1 + c) 600000 && Nat.ble ((lwn t).2 + s) 7302250) = true := by
  rw [Bool.and_eq_true, Nat.ble_eq, Nat.ble_eq]
  unfold lwn
  dsimp only
  omega
theorem lwc_0 (κ : gm_K) {Φ : Option Value → gm_H → Prop} {L : Nat} {xs : Nat → Int32} (hX : SCR κ L xs) (hL : L ≤ 2560) {t : Nat} (ht5 : 5 * t + 5 ≤ L) (b : Bool) (σ : wg_S) (hz : zS σ) (E : ∀ b σ, zS σ → Go κ mL_law 1273 (lwv t) [] (wd (gg b) σ) (lwn (t + 1)) Φ) : Go κ mL_law 188 (lwv t) [] (wd (gg b) σ) (lwn t) Φ := by
  have ht : t < 512 := by omega
  refine go_aload_n dL_law_188 rfl ?_
  refine go_aload_o dL_law_189 rfl ?_
  refine go_iload_n dL_law_190 rfl ?_
  refine go_iconst (v := nI 1) dL_law_191 (by decide) ?_
  refine go_iaddN dL_law_192 ?_
  refine go_sld hX dL_law_193 (by omega) hL ?_
  refine go_aload_o dL_law_194 rfl ?_
  refine go_iload_n dL_law_195 rfl ?_
  refine go_iconst (v := nI 2) dL_law_196 (by decide) ?_
  refine go_iaddN dL_law_197 ?_
  refine go_sld hX dL_law_198 (by omega) hL ?_
  refine go_aload_o dL_law_199 rfl ?_
  refine go_iload_n dL_law_200 rfl ?_
  refine go_iconst (v := nI 3) dL_law_201 (by decide) ?_
  refine go_iaddN dL_law_202 ?_
  refine go_sld hX dL_law_203 (by omega) hL ?_
  refine go_aload_o dL_law_204 rfl ?_
  refine go_iload_n dL_law_205 rfl ?_
  refine go_iconst (v := nI 4) dL_law_206 (by decide) ?_
  refine go_iaddN dL_law_207 ?_
  refine go_sld hX dL_law_208 (by omega) hL ?_
  refine go_b1 (B_choir κ _ _ _ _) hz dL_law_209 cvL_law_13 rfl rfl rfl (lwn_c ht (by decide) (by decide)) (fun x b τ Φ₂ hC2 hq2 => ?_)
  refine go_aload_n dL_law_212 rfl ?_
  refine go_aload_o dL_law_213 rfl ?_
  refine go_iload_n dL_law_214 rfl ?_
  refine go_iconst (v := nI 1) dL_law_215 (by decide) ?_
  refine go_iaddN dL_law_216 ?_
  refine go_sld hX dL_law_217 (by omega) hL ?_
  refine go_aload_o dL_law_218 rfl ?_
  refine go_iload_n dL_law_219 rfl ?_
  refine go_iconst (v := nI 2) dL_law_220 (by decide) ?_
  refine go_iaddN dL_law_221 ?_
  refine go_sld hX dL_law_222 (by omega) hL ?_
  refine go_aload_o dL_law_223 rfl ?_
  refine go_iload_n dL_law_224 rfl ?_
  refine go_iconst (v := nI 3) dL_law_225 (by decide) ?_
  refine go_iaddN dL_law_226 ?_
  refine go_sld hX dL_law_227 (by omega) hL ?_
  refine go_aload_o dL_law_228 rfl ?_
  refine go_iload_n dL_law_229 rfl ?_
  refine go_iconst (v := nI 4) dL_law_230 (by decide) ?_
  refine go_iaddN dL_law_231 ?_
  refine go_sld hX dL_law_232 (by omega) hL ?_
  exact go_b2 1273 hC2 hq2 dL_law_233 cvL_law_17 rfl rfl rfl (lwn_c ht (by decide) (by decide)) dL_law_236 (by decide) (fun υ hz => go_widen (m := lwn (t + 1)) (by unfold lwn; dsimp only; omega) (by unfold lwn; dsimp only; omega) (E b υ hz))
theorem lwc_1 (κ : gm_K) {Φ : Option Value → gm_H → Prop} {L : Nat} {xs : Nat → Int32} (hX : SCR κ L xs) (hL : L ≤ 2560) {t : Nat} (ht5 : 5 * t + 5 ≤ L) (b : Bool) (σ : wg_S) (hz : zS σ) (E : ∀ b σ, zS σ → Go κ mL_law 1273 (lwv t) [] (wd (gg b) σ) (lwn (t + 1)) Φ) : Go κ mL_law 241 (lwv t) [] (wd (gg b) σ) (lwn t) Φ := by
  have ht : t < 512 := by omega
  refine go_aload_n dL_law_241 rfl ?_
  refine go_aload_o dL_law_242 rfl ?_
  refine go_iload_n dL_law_243 rfl ?_
  refine go_iconst (v := nI 1) dL_law_244 (by decide) ?_
  refine go_iaddN dL_law_245 ?_
  refine go_sld hX dL_law_246 (by omega) hL ?_
  refine go_b1 (B_day κ _) hz dL_law_247 cvL_law_18 rfl rfl rfl (lwn_c ht (by decide) (by decide)) (fun x b τ Φ₂ hC2 hq2 => ?_)
  refine go_aload_n dL_law_250 rfl ?_
  refine go_aload_o dL_law_251 rfl ?_
  refine go_iload_n dL_law_252 rfl ?_
  refine go_iconst (v := nI 1) dL_law_253 (by decide) ?_
  refine go_iaddN dL_law_254 ?_
  refine go_sld hX dL_law_255 (by omega) hL ?_
  exact go_b2 1273 hC2 hq2 dL_law_256 cvL_law_22 rfl rfl rfl (lwn_c ht (by decide) (by decide)) dL_law_259 (by decide) (fun υ hz => go_widen (m := lwn (t + 1)) (by unfold lwn; dsimp only; omega) (by unfold lwn; dsimp only; omega) (E b υ hz))
theorem lwc_2 (κ : gm_K) {Φ : Option Value → gm_H → Prop} {L : Nat} {xs : Nat → Int32} (hX : SCR κ L xs) (hL : L ≤ 2560) {t : Nat} (ht5 : 5 * t + 5 ≤ L) (b : Bool) (σ : wg_S) (hz : zS σ) (E : ∀ b σ, zS σ → Go κ mL_law 1273 (lwv t) [] (wd (gg b) σ) (lwn (t + 1)) Φ) : Go κ mL_law 264 (lwv t) [] (wd (gg b) σ) (lwn t) Φ := by
  have ht : t < 512 := by omega
  refine go_aload_n dL_law_264 rfl ?_
  refine go_aload_o dL_law_265 rfl ?_
  refine go_iload_n dL_law_266 rfl ?_
  refine go_iconst (v := nI 1) dL_law_267 (by decide) ?_
  refine go_iaddN dL_law_268 ?_
  refine go_sld hX dL_law_269 (by omega) hL ?_
  refine go_aload_o dL_law_270 rfl ?_
  refine go_iload_n dL_law_271 rfl ?_
  refine go_iconst (v := nI 2) dL_law_272 (by decide) ?_
  refine go_iaddN dL_law_273 ?_
  refine go_sld hX dL_law_274 (by omega) hL ?_
  refine go_aload_o dL_law_275 rfl ?_
  refine go_iload_n dL_law_276 rfl ?_
  refine go_iconst (v := nI 3) dL_law_277 (by decide) ?_
  refine go_iaddN dL_law_278 ?_
  refine go_sld hX dL_law_279 (by omega) hL ?_
  refine go_aload_o dL_law_280 rfl ?_
  refine go_iload_n dL_law_281 rfl ?_
  refine go_iconst (v := nI 4) dL_law_282 (by decide) ?_
  refine go_iaddN dL_law_283 ?_
  refine go_sld hX dL_law_284 (by omega) hL ?_
  refine go_b1 (B_song κ _ _ _ _) hz dL_law_285 cvL_law_23 rfl rfl rfl (lwn_c ht (by decide) (by decide)) (fun x b τ Φ₂ hC2 hq2 => ?_)
  refine go_aload_n dL_law_288 rfl ?_
  refine go_aload_o dL_law_289 rfl ?_
  refine go_iload_n dL_law_290 rfl ?_
  refine go_iconst (v := nI 1) dL_law_291 (by decide) ?_
  refine go_iaddN dL_law_292 ?_
  refine go_sld hX dL_law_293 (by omega) hL ?_
  refine go_aload_o dL_law_294 rfl ?_
  refine go_iload_n dL_law_295 rfl ?_
  refine go_iconst (v := nI 2) dL_law_296 (by decide) ?_
  refine go_iaddN dL_law_297 ?_
  refine go_sld hX dL_law_298 (by omega) hL ?_
  refine go_aload_o dL_law_299 rfl ?_
  refine go_iload_n dL_law_300 rfl ?_
  refine go_iconst (v := nI 3) dL_law_301 (by decide) ?_
  refine go_iaddN dL_law_302 ?_
  refine go_sld hX dL_law_303 (by omega) hL ?_
  refine go_aload_o dL_law_304 rfl ?_
  refine go_iload_n dL_law_305 rfl ?_
  refine go_iconst (v := nI 4) dL_law_306 (by decide) ?_
  refine go_iaddN dL_law_307 ?_
  refine go_sld hX dL_law_308 (by omega) hL ?_
  exact go_b2 1273 hC2 hq2 dL_law_309 cvL_law_26 rfl rfl rfl (lwn_c ht (by decide) (by decide)) dL_law_312 (by decide) (fun υ hz => go_widen (m := lwn (t + 1)) (by unfold lwn; dsimp only; omega) (by unfold lwn; dsimp only; omega) (E b υ hz))
theorem lwc_3 (κ : gm_K) {Φ : Option Value → gm_H → Prop} {L : Nat} {xs : Nat → Int32} (hX : SCR κ L xs) (hL : L ≤ 2560) {t : Nat} (ht5 : 5 * t + 5 ≤ L) (b : Bool) (σ : wg_S) (hz : zS σ) (E : ∀ b σ, zS σ → Go κ mL_law 1273 (lwv t) [] (wd (gg b) σ) (lwn (t + 1)) Φ) : Go κ mL_law 317 (lwv t) [] (wd (gg b) σ) (lwn t) Φ := by
  have ht : t < 512 := by omega
  refine go_aload_n dL_law_317 rfl ?_
  refine go_aload_o dL_law_318 rfl ?_
  refine go_iload_n dL_law_319 rfl ?_
  refine go_iconst (v := nI 1) dL_law_320 (by decide) ?_
  refine go_iaddN dL_law_321 ?_
  refine go_sld hX dL_law_322 (by omega) hL ?_
  refine go_b1 (B_judge κ _) hz dL_law_323 cvL_law_27 rfl rfl rfl (lwn_c ht (by decide) (by decide)) (fun x b τ Φ₂ hC2 hq2 => ?_)
  refine go_aload_n dL_law_326 rfl ?_
  refine go_aload_o dL_law_327 rfl ?_
  refine go_iload_n dL_law_328 rfl ?_
  refine go_iconst (v := nI 1) dL_law_329 (by decide) ?_
  refine go_iaddN dL_law_330 ?_
  refine go_sld hX dL_law_331 (by omega) hL ?_
  exact go_b2 1273 hC2 hq2 dL_law_332 cvL_law_30 rfl rfl rfl (lwn_c ht (by decide) (by decide)) dL_law_335 (by decide) (fun υ hz => go_widen (m := lwn (t + 1)) (by unfold lwn; dsimp only; omega) (by unfold lwn; dsimp only; omega) (E b υ hz))
theorem lwc_4 (κ : gm_K) {Φ : Option Value → gm_H → Prop} {L : Nat} {xs : Nat → Int32} (hX : SCR κ L xs) (hL : L ≤ 2560) {t : Nat} (ht5 : 5 * t + 5 ≤ L) (b : Bool) (σ : wg_S) (hz : zS σ) (E : ∀ b σ, zS σ → Go κ mL_law 1273 (lwv t) [] (wd (gg b) σ) (lwn (t + 1)) Φ) : Go κ mL_law 340 (lwv t) [] (wd (gg b) σ) (lwn t) Φ := by
  have ht : t < 512 := by omega
  refine go_aload_n dL_law_340 rfl ?_
  refine go_aload_o dL_law_341 rfl ?_
  refine go_iload_n dL_law_342 rfl ?_
  refine go_iconst (v := nI 1) dL_law_343 (by decide) ?_
  refine go_iaddN dL_law_344 ?_
  refine go_sld hX dL_law_345 (by omega) hL ?_
  refine go_aload_o dL_law_346 rfl ?_
  refine go_iload_n dL_law_347 rfl ?_
  refine go_iconst (v := nI 2) dL_law_348 (by decide) ?_
  refine go_iaddN dL_law_349 ?_
  refine go_sld hX dL_law_350 (by omega) hL ?_
  refine go_aload_o dL_law_351 rfl ?_
  refine go_iload_n dL_law_352 rfl ?_
  refine go_iconst (v := nI 3) dL_law_353 (by decide) ?_
  refine go_iaddN dL_law_354 ?_
  refine go_sld hX dL_law_355 (by omega) hL ?_
  refine go_b1 (B_mark κ _ _ _) hz dL_law_356 cvL_law_31 rfl rfl rfl (lwn_c ht (by decide) (by decide)) (fun x b τ Φ₂ hC2 hq2 => ?_)
  refine go_aload_n dL_law_359 rfl ?_
  refine go_aload_o dL_law_360 rfl ?_
  refine go_iload_n dL_law_361 rfl ?_
  refine go_iconst (v := nI 1) dL_law_362 (by decide) ?_
  refine go_iaddN dL_law_363 ?_
  refine go_sld hX dL_law_364 (by omega) hL ?_
  refine go_aload_o dL_law_365 rfl ?_
  refine go_iload_n dL_law_366 rfl ?_
  refine go_iconst (v := nI 2) dL_law_367 (by decide) ?_
  refine go_iaddN dL_law_368 ?_
  refine go_sld hX dL_law_369 (by omega) hL ?_
  refine go_aload_o dL_law_370 rfl ?_
  refine go_iload_n dL_law_371 rfl ?_
  refine go_iconst (v := nI 3) dL_law_372 (by decide) ?_
  refine go_iaddN dL_law_373 ?_
  refine go_sld hX dL_law_374 (by omega) hL ?_
  exact go_b2 1273 hC2 hq2 dL_law_375 cvL_law_35 rfl rfl rfl (lwn_c ht (by decide) (by decide)) dL_law_378 (by decide) (fun υ hz => go_widen (m := lwn (t + 1)) (by unfold lwn; dsimp only; omega) (by unfold lwn; dsimp only; omega) (E b υ hz))
theorem lwc_5 (κ : gm_K) {Φ : Option Value → gm_H → Prop} {L : Nat} {xs : Nat → Int32} (hX : SCR κ L xs) (hL : L ≤ 2560) {t : Nat} (ht5 : 5 * t + 5 ≤ L) (b : Bool) (σ : wg_S) (hz : zS σ) (E : ∀ b σ, zS σ → Go κ mL_law 1273 (lwv t) [] (wd (gg b) σ) (lwn (t + 1)) Φ) : Go κ mL_law 383 (lwv t) [] (wd (gg b) σ) (lwn t) Φ := by
  have ht : t < 512 := by omega
  refine go_aload_n dL_law_383 rfl ?_
  refine go_aload_o dL_law_384 rfl ?_
  refine go_iload_n dL_law_385 rfl ?_
  refine go_iconst (v := nI 1) dL_law_386 (by decide) ?_
  refine go_iaddN dL_law_387 ?_
  refine go_sld hX dL_law_388 (by omega) hL ?_
  refine go_b1 (B_mean κ _) hz dL_law_389 cvL_law_36 rfl rfl rfl (lwn_c ht (by decide) (by decide)) (fun x b τ Φ₂ hC2 hq2 => ?_)
  refine go_aload_n dL_law_392 rfl ?_
  refine go_aload_o dL_law_393 rfl ?_
  refine go_iload_n dL_law_394 rfl ?_
  refine go_iconst (v := nI 1) dL_law_395 (by decide) ?_
  refine go_iaddN dL_law_396 ?_
  refine go_sld hX dL_law_397 (by omega) hL ?_
  exact go_b2 1273 hC2 hq2 dL_law_398 cvL_law_39 rfl rfl rfl (lwn_c ht (by decide) (by decide)) dL_law_401 (by decide) (fun υ hz => go_widen (m := lwn (t + 1)) (by unfold lwn; dsimp only; omega) (by unfold lwn; dsimp only; omega) (E b υ hz))
theorem lwc_6 (κ : gm_K) {Φ : Option Value → gm_H → Prop} {L : Nat} {xs : Nat → Int32} (hX : SCR κ L xs) (hL : L ≤ 2560) {t : Nat} (ht5 : 5 * t + 5 ≤ L) (b : Bool) (σ : wg_S) (hz : zS σ) (E : ∀ b σ, zS σ → Go κ mL_law 1273 (lwv t) [] (wd (gg b) σ) (lwn (t + 1)) Φ) : Go κ mL_law 406 (lwv t) [] (wd (gg b) σ) (lwn t) Φ := by
  have ht : t < 512 := by omega
  refine go_aload_n dL_law_406 rfl ?_
  refine go_aload_o dL_law_407 rfl ?_
  refine go_iload_n dL_law_408 rfl ?_
  refine go_iconst (v := nI 1) dL_law_409 (by decide) ?_
  refine go_iaddN dL_law_410 ?_
  refine go_sld hX dL_law_411 (by omega) hL ?_
  refine go_aload_o dL_law_412 rfl ?_
  refine go_iload_n dL_law_413 rfl ?_
  refine go_iconst (v := nI 2) dL_law_414 (by decide) ?_
  refine go_iaddN dL_law_415 ?_
  refine go_sld hX dL_law_416 (by omega) hL ?_
  refine go_b1 (B_scale κ _ _) hz dL_law_417 cvL_law_40 rfl rfl rfl (lwn_c ht (by decide) (by decide)) (fun x b τ Φ₂ hC2 hq2 => ?_)
  refine go_aload_n dL_law_420 rfl ?_
  refine go_aload_o dL_law_421 rfl ?_
  refine go_iload_n dL_law_422 rfl ?_
  refine go_iconst (v := nI 1) dL_law_423 (by decide) ?_
  refine go_iaddN dL_law_424 ?_
  refine go_sld hX dL_law_425 (by omega) hL ?_
  refine go_aload_o dL_law_426 rfl ?_
  refine go_iload_n dL_law_427 rfl ?_
  refine go_iconst (v := nI 2) dL_law_428 (by decide) ?_
  refine go_iaddN dL_law_429 ?_
  refine go_sld hX dL_law_430 (by omega) hL ?_
  exact go_b2 1273 hC2 hq2 dL_law_431 cvL_law_44 rfl rfl rfl (lwn_c ht (by decide) (by decide)) dL_law_434 (by decide) (fun υ hz => go_widen (m := lwn (t + 1)) (by unfold lwn; dsimp only; omega) (by unfold lwn; dsimp only; omega) (E b υ hz))
theorem lwc_7 (κ : gm_K) {Φ : Option Value → gm_H → Prop} {L : Nat} {xs : Nat → Int32} (hX : SCR κ L xs) (hL : L ≤ 2560) {t : Nat} (ht5 : 5 * t + 5 ≤ L) (b : Bool) (σ : wg_S) (hz : zS σ) (E : ∀ b σ, zS σ → Go κ mL_law 1273 (lwv t) [] (wd (gg b) σ) (lwn (t + 1)) Φ) : Go κ mL_law 439 (lwv t) [] (wd (gg b) σ) (lwn t) Φ := by
  have ht : t < 512 := by omega
  refine go_aload_n dL_law_439 rfl ?_
  refine go_aload_o dL_law_440 rfl ?_
  refine go_iload_n dL_law_441 rfl ?_
  refine go_iconst (v := nI 1) dL_law_442 (by decide) ?_
  refine go_iaddN dL_law_443 ?_
  refine go_sld hX dL_law_444 (by omega) hL ?_
  refine go_aload_o dL_law_445 rfl ?_
  refine go_iload_n dL_law_446 rfl ?_
  refine go_iconst (v := nI 2) dL_law_447 (by decide) ?_
  refine go_iaddN dL_law_448 ?_
  refine go_sld hX dL_law_449 (by omega) hL ?_
  refine go_b1 (B_about κ _ _) hz dL_law_450 cvL_law_45 rfl rfl rfl (lwn_c ht (by decide) (by decide)) (fun x b τ Φ₂ hC2 hq2 => ?_)
  refine go_aload_n dL_law_453 rfl ?_
  refine go_aload_o dL_law_454 rfl ?_
  refine go_iload_n dL_law_455 rfl ?_
  refine go_iconst (v := nI 1) dL_law_456 (by decide) ?_
  refine go_iaddN dL_law_457 ?_
  refine go_sld hX dL_law_458 (by omega) hL ?_
  refine go_aload_o dL_law_459 rfl ?_
  refine go_iload_n dL_law_460 rfl ?_
  refine go_iconst (v := nI 2) dL_law_461 (by decide) ?_
  refine go_iaddN dL_law_462 ?_
  refine go_sld hX dL_law_463 (by omega) hL ?_
  exact go_b2 1273 hC2 hq2 dL_law_464 cvL_law_48 rfl rfl rfl (lwn_c ht (by decide) (by decide)) dL_law_467 (by decide) (fun υ hz => go_widen (m := lwn (t + 1)) (by unfold lwn; dsimp only; omega) (by unfold lwn; dsimp only; omega) (E b υ hz))
theorem lwc_8 (κ : gm_K) {Φ : Option Value → gm_H → Prop} {L : Nat} {xs : Nat → Int32} (hX : SCR κ L xs) (hL : L ≤ 2560) {t : Nat} (ht5 : 5 * t + 5 ≤ L) (b : Bool) (σ : wg_S) (hz : zS σ) (E : ∀ b σ, zS σ → Go κ mL_law 1273 (lwv t) [] (wd (gg b) σ) (lwn (t + 1)) Φ) : Go κ mL_law 472 (lwv t) [] (wd (gg b) σ) (lwn t) Φ := by
  have ht : t < 512 := by omega
  refine go_aload_n dL_law_472 rfl ?_
  refine go_aload_o dL_law_473 rfl ?_
  refine go_iload_n dL_law_474 rfl ?_
  refine go_iconst (v := nI 1) dL_law_475 (by decide) ?_
  refine go_iaddN dL_law_476 ?_
  refine go_sld hX dL_law_477 (by omega) hL ?_
  refine go_aload_o dL_law_478 rfl ?_
  refine go_iload_n dL_law_479 rfl ?_
  refine go_iconst (v := nI 2) dL_law_480 (by decide) ?_
  refine go_iaddN dL_law_481 ?_
  refine go_sld hX dL_law_482 (by omega) hL ?_
  refine go_b1 (B_voice κ _ _) hz dL_law_483 cvL_law_49 rfl rfl rfl (lwn_c ht (by decide) (by decide)) (fun x b τ Φ₂ hC2 hq2 => ?_)
  refine go_aload_n dL_law_486 rfl ?_
  refine go_aload_o dL_law_487 rfl ?_
  refine go_iload_n dL_law_488 rfl ?_
  refine go_iconst (v := nI 1) dL_law_489 (by decide) ?_
  refine go_iaddN dL_law_490 ?_
  refine go_sld hX dL_law_491 (by omega) hL ?_
  refine go_aload_o dL_law_492 rfl ?_
  refine go_iload_n dL_law_493 rfl ?_
  refine go_iconst (v := nI 2) dL_law_494 (by decide) ?_
  refine go_iaddN dL_law_495 ?_
  refine go_sld hX dL_law_496 (by omega) hL ?_
  exact go_b2 1273 hC2 hq2 dL_law_497 cvL_law_52 rfl rfl rfl (lwn_c ht (by decide) (by decide)) dL_law_500 (by decide) (fun υ hz => go_widen (m := lwn (t + 1)) (by unfold lwn; dsimp only; omega) (by unfold lwn; dsimp only; omega) (E b υ hz))
theorem lwc_9 (κ : gm_K) {Φ : Option Value → gm_H → Prop} {L : Nat} {xs : Nat → Int32} (hX : SCR κ L xs) (hL : L ≤ 2560) {t : Nat} (ht5 : 5 * t + 5 ≤ L) (b : Bool) (σ : wg_S) (hz : zS σ) (E : ∀ b σ, zS σ → Go κ mL_law 1273 (lwv t) [] (wd (gg b) σ) (lwn (t + 1)) Φ) : Go κ mL_law 505 (lwv t) [] (wd (gg b) σ) (lwn t) Φ := by
  have ht : t < 512 := by omega
  refine go_aload_n dL_law_505 rfl ?_
  refine go_aload_o dL_law_506 rfl ?_
  refine go_iload_n dL_law_507 rfl ?_
  refine go_iconst (v := nI 1) dL_law_508 (by decide) ?_
  refine go_iaddN dL_law_509 ?_
  refine go_sld hX dL_law_510 (by omega) hL ?_
  refine go_i2l dL_law_511 ?_
  refine go_bipush (v := nI 32) dL_law_512 (by decide) ?_
  refine go_lshl dL_law_514 ?_
  refine go_aload_o dL_law_515 rfl ?_
  refine go_iload_n dL_law_516 rfl ?_
  refine go_iconst (v := nI 2) dL_law_517 (by decide) ?_
  refine go_iaddN dL_law_518 ?_
  refine go_sld hX dL_law_519 (by omega) hL ?_
  refine go_i2l dL_law_520 ?_
  refine go_ldc2 dL_law_521 klL_53 ?_
  refine go_land dL_law_524 ?_
  refine go_lor dL_law_525 ?_
  refine go_aload_o dL_law_526 rfl ?_
  refine go_iload_n dL_law_527 rfl ?_
  refine go_iconst (v := nI 3) dL_law_528 (by decide) ?_
  refine go_iaddN dL_law_529 ?_
  refine go_sld hX dL_law_530 (by omega) hL ?_
  refine go_b1 (B_feed κ _ _) hz dL_law_531 cvL_law_55 rfl rfl rfl (lwn_c ht (by decide) (by decide)) (fun x b τ Φ₂ hC2 hq2 => ?_)
  refine go_aload_n dL_law_534 rfl ?_
  refine go_aload_o dL_law_535 rfl ?_
  refine go_iload_n dL_law_536 rfl ?_
  refine go_iconst (v := nI 1) dL_law_537 (by decide) ?_
  refine go_iaddN dL_law_538 ?_
  refine go_sld hX dL_law_539 (by omega) hL ?_
  refine go_i2l dL_law_540 ?_
  refine go_bipush (v := nI 32) dL_law_541 (by decide) ?_
  refine go_lshl dL_law_543 ?_
  refine go_aload_o dL_law_544 rfl ?_
  refine go_iload_n dL_law_545 rfl ?_
  refine go_iconst (v := nI 2) dL_law_546 (by decide) ?_
  refine go_iaddN dL_law_547 ?_
  refine go_sld hX dL_law_548 (by omega) hL ?_
  refine go_i2l dL_law_549 ?_
  refine go_ldc2 dL_law_550 klL_53 ?_
  refine go_land dL_law_553 ?_
  refine go_lor dL_law_554 ?_
  refine go_aload_o dL_law_555 rfl ?_
  refine go_iload_n dL_law_556 rfl ?_
  refine go_iconst (v := nI 3) dL_law_557 (by decide) ?_
  refine go_iaddN dL_law_558 ?_
  refine go_sld hX dL_law_559 (by omega) hL ?_
  exact go_b2 1273 hC2 hq2 dL_law_560 cvL_law_59 rfl rfl rfl (lwn_c ht (by decide) (by decide)) dL_law_563 (by decide) (fun υ hz => go_widen (m := lwn (t + 1)) (by unfold lwn; dsimp only; omega) (by unfold lwn; dsimp only; omega) (E b υ hz))
theorem lwc_10 (κ : gm_K) (T : TXT κ) {Φ : Option Value → gm_H → Prop} {L : Nat} {xs : Nat → Int32} (hX : SCR κ L xs) (hL : L ≤ 2560) {t : Nat} (ht5 : 5 * t + 5 ≤ L) (b : Bool) (σ : wg_S) (hz : zS σ) (E : ∀ b σ, zS σ → Go κ mL_law 1273 (lwv t) [] (wd (gg b) σ) (lwn (t + 1)) Φ) : Go κ mL_law 568 (lwv t) [] (wd (gg b) σ) (lwn t) Φ := by
  have ht : t < 512 := by omega
  refine go_aload_n dL_law_568 rfl ?_
  refine go_b1 (B_rule κ T) hz dL_law_569 cvL_law_60 rfl rfl rfl (lwn_c ht (by decide) (by decide)) (fun x b τ Φ₂ hC2 hq2 => ?_)
  refine go_aload_n dL_law_572 rfl ?_
  exact go_b2 1273 hC2 hq2 dL_law_573 cvL_law_64 rfl rfl rfl (lwn_c ht (by decide) (by decide)) dL_law_576 (by decide) (fun υ hz => go_widen (m := lwn (t + 1)) (by unfold lwn; dsimp only; omega) (by unfold lwn; dsimp only; omega) (E b υ hz))
theorem lwc_11 (κ : gm_K) {Φ : Option Value → gm_H → Prop} {L : Nat} {xs : Nat → Int32} (hX : SCR κ L xs) (hL : L ≤ 2560) {t : Nat} (ht5 : 5 * t + 5 ≤ L) (b : Bool) (σ : wg_S) (hz : zS σ) (E : ∀ b σ, zS σ → Go κ mL_law 1273 (lwv t) [] (wd (gg b) σ) (lwn (t + 1)) Φ) : Go κ mL_law 581 (lwv t) [] (wd (gg b) σ) (lwn t) Φ := by
  have ht : t < 512 := by omega
  refine go_aload_n dL_law_581 rfl ?_
  refine go_aload_o dL_law_582 rfl ?_
  refine go_iload_n dL_law_583 rfl ?_
  refine go_iconst (v := nI 1) dL_law_584 (by decide) ?_
  refine go_iaddN dL_law_585 ?_
  refine go_sld hX dL_law_586 (by omega) hL ?_
  refine go_aload_o dL_law_587 rfl ?_
  refine go_iload_n dL_law_588 rfl ?_
  refine go_iconst (v := nI 2) dL_law_589 (by decide) ?_
  refine go_iaddN dL_law_590 ?_
  refine go_sld hX dL_law_591 (by omega) hL ?_
  refine go_b1 (B_may κ _ _) hz dL_law_592 cvL_law_65 rfl rfl rfl (lwn_c ht (by decide) (by decide)) (fun x b τ Φ₂ hC2 hq2 => ?_)
  refine go_aload_n dL_law_595 rfl ?_
  refine go_aload_o dL_law_596 rfl ?_
  refine go_iload_n dL_law_597 rfl ?_
  refine go_iconst (v := nI 1) dL_law_598 (by decide) ?_
  refine go_iaddN dL_law_599 ?_
  refine go_sld hX dL_law_600 (by omega) hL ?_
  refine go_aload_o dL_law_601 rfl ?_
  refine go_iload_n dL_law_602 rfl ?_
  refine go_iconst (v := nI 2) dL_law_603 (by decide) ?_
  refine go_iaddN dL_law_604 ?_
  refine go_sld hX dL_law_605 (by omega) hL ?_
  exact go_b2 1273 hC2 hq2 dL_law_606 cvL_law_68 rfl rfl rfl (lwn_c ht (by decide) (by decide)) dL_law_609 (by decide) (fun υ hz => go_widen (m := lwn (t + 1)) (by unfold lwn; dsimp only; omega) (by unfold lwn; dsimp only; omega) (E b υ hz))
theorem lwc_12 (κ : gm_K) {Φ : Option Value → gm_H → Prop} {L : Nat} {xs : Nat → Int32} (hX : SCR κ L xs) (hL : L ≤ 2560) {t : Nat} (ht5 : 5 * t + 5 ≤ L) (b : Bool) (σ : wg_S) (hz : zS σ) (E : ∀ b σ, zS σ → Go κ mL_law 1273 (lwv t) [] (wd (gg b) σ) (lwn (t + 1)) Φ) : Go κ mL_law 614 (lwv t) [] (wd (gg b) σ) (lwn t) Φ := by
  have ht : t < 512 := by omega
  refine go_aload_n dL_law_614 rfl ?_
  refine go_aload_o dL_law_615 rfl ?_
  refine go_iload_n dL_law_616 rfl ?_
  refine go_iconst (v := nI 1) dL_law_617 (by decide) ?_
  refine go_iaddN dL_law_618 ?_
  refine go_sld hX dL_law_619 (by omega) hL ?_
  refine go_aload_o dL_law_620 rfl ?_
  refine go_iload_n dL_law_621 rfl ?_
  refine go_iconst (v := nI 2) dL_law_622 (by decide) ?_
  refine go_iaddN dL_law_623 ?_
  refine go_sld hX dL_law_624 (by omega) hL ?_
  refine go_b1 (B_why κ _ _) hz dL_law_625 cvL_law_69 rfl rfl rfl (lwn_c ht (by decide) (by decide)) (fun x b τ Φ₂ hC2 hq2 => ?_)
  refine go_aload_n dL_law_628 rfl ?_
  refine go_aload_o dL_law_629 rfl ?_
  refine go_iload_n dL_law_630 rfl ?_
  refine go_iconst (v := nI 1) dL_law_631 (by decide) ?_
  refine go_iaddN dL_law_632 ?_
  refine go_sld hX dL_law_633 (by omega) hL ?_
  refine go_aload_o dL_law_634 rfl ?_
  refine go_iload_n dL_law_635 rfl ?_
  refine go_iconst (v := nI 2) dL_law_636 (by decide) ?_
  refine go_iaddN dL_law_637 ?_
  refine go_sld hX dL_law_638 (by omega) hL ?_
  exact go_b2 1273 hC2 hq2 dL_law_639 cvL_law_72 rfl rfl rfl (lwn_c ht (by decide) (by decide)) dL_law_642 (by decide) (fun υ hz => go_widen (m := lwn (t + 1)) (by unfold lwn; dsimp only; omega) (by unfold lwn; dsimp only; omega) (E b υ hz))
theorem lwc_13 (κ : gm_K) {Φ : Option Value → gm_H → Prop} {L : Nat} {xs : Nat → Int32} (hX : SCR κ L xs) (hL : L ≤ 2560) {t : Nat} (ht5 : 5 * t + 5 ≤ L) (b : Bool) (σ : wg_S) (hz : zS σ) (E : ∀ b σ, zS σ → Go κ mL_law 1273 (lwv t) [] (wd (gg b) σ) (lwn (t + 1)) Φ) : Go κ mL_law 647 (lwv t) [] (wd (gg b) σ) (lwn t) Φ := by
  have ht : t < 512 := by omega
  refine go_aload_n dL_law_647 rfl ?_
  refine go_aload_o dL_law_648 rfl ?_
  refine go_iload_n dL_law_649 rfl ?_
  refine go_iconst (v := nI 1) dL_law_650 (by decide) ?_
  refine go_iaddN dL_law_651 ?_
  refine go_sld hX dL_law_652 (by omega) hL ?_
  refine go_aload_o dL_law_653 rfl ?_
  refine go_iload_n dL_law_654 rfl ?_
  refine go_iconst (v := nI 2) dL_law_655 (by decide) ?_
  refine go_iaddN dL_law_656 ?_
  refine go_sld hX dL_law_657 (by omega) hL ?_
  refine go_b1 (B_vote κ _ _) hz dL_law_658 cvL_law_73 rfl rfl rfl (lwn_c ht (by decide) (by decide)) (fun x b τ Φ₂ hC2 hq2 => ?_)
  refine go_aload_n dL_law_661 rfl ?_
  refine go_aload_o dL_law_662 rfl ?_
  refine go_iload_n dL_law_663 rfl ?_
  refine go_iconst (v := nI 1) dL_law_664 (by decide) ?_
  refine go_iaddN dL_law_665 ?_
  refine go_sld hX dL_law_666 (by omega) hL ?_
  refine go_aload_o dL_law_667 rfl ?_
  refine go_iload_n dL_law_668 rfl ?_
  refine go_iconst (v := nI 2) dL_law_669 (by decide) ?_
  refine go_iaddN dL_law_670 ?_
  refine go_sld hX dL_law_671 (by omega) hL ?_
  exact go_b2 1273 hC2 hq2 dL_law_672 cvL_law_76 rfl rfl rfl (lwn_c ht (by decide) (by decide)) dL_law_675 (by decide) (fun υ hz => go_widen (m := lwn (t + 1)) (by unfold lwn; dsimp only; omega) (by unfold lwn; dsimp only; omega) (E b υ hz))
theorem lwc_14 (κ : gm_K) {Φ : Option Value → gm_H → Prop} {L : Nat} {xs : Nat → Int32} (hX : SCR κ L xs) (hL : L ≤ 2560) {t : Nat} (ht5 : 5 * t + 5 ≤ L) (b : Bool) (σ : wg_S) (hz : zS σ) (E : ∀ b σ, zS σ → Go κ mL_law 1273 (lwv t) [] (wd (gg b) σ) (lwn (t + 1)) Φ) : Go κ mL_law 680 (lwv t) [] (wd (gg b) σ) (lwn t) Φ := by
  have ht : t < 512 := by omega
  refine go_aload_n dL_law_680 rfl ?_
  refine go_aload_o dL_law_681 rfl ?_
  refine go_iload_n dL_law_682 rfl ?_
  refine go_iconst (v := nI 1) dL_law_683 (by decide) ?_
  refine go_iaddN dL_law_684 ?_
  refine go_sld hX dL_law_685 (by omega) hL ?_
  refine go_b1 (B_leader κ _) hz dL_law_686 cvL_law_77 rfl rfl rfl (lwn_c ht (by decide) (by decide)) (fun x b τ Φ₂ hC2 hq2 => ?_)
  refine go_aload_n dL_law_689 rfl ?_
  refine go_aload_o dL_law_690 rfl ?_
  refine go_iload_n dL_law_691 rfl ?_
  refine go_iconst (v := nI 1) dL_law_692 (by decide) ?_
  refine go_iaddN dL_law_693 ?_
  refine go_sld hX dL_law_694 (by omega) hL ?_
  exact go_b2 1273 hC2 hq2 dL_law_695 cvL_law_80 rfl rfl rfl (lwn_c ht (by decide) (by decide)) dL_law_698 (by decide) (fun υ hz => go_widen (m := lwn (t + 1)) (by unfold lwn; dsimp only; omega) (by unfold lwn; dsimp only; omega) (E b υ hz))
theorem lwc_15 (κ : gm_K) {Φ : Option Value → gm_H → Prop} {L : Nat} {xs : Nat → Int32} (hX : SCR κ L xs) (hL : L ≤ 2560) {t : Nat} (ht5 : 5 * t + 5 ≤ L) (b : Bool) (σ : wg_S) (hz : zS σ) (E : ∀ b σ, zS σ → Go κ mL_law 1273 (lwv t) [] (wd (gg b) σ) (lwn (t + 1)) Φ) : Go κ mL_law 703 (lwv t) [] (wd (gg b) σ) (lwn t) Φ := by
  have ht : t < 512 := by omega
  refine go_aload_n dL_law_703 rfl ?_
  refine go_aload_o dL_law_704 rfl ?_
  refine go_iload_n dL_law_705 rfl ?_
  refine go_iconst (v := nI 1) dL_law_706 (by decide) ?_
  refine go_iaddN dL_law_707 ?_
  refine go_sld hX dL_law_708 (by omega) hL ?_
  refine go_aload_o dL_law_709 rfl ?_
  refine go_iload_n dL_law_710 rfl ?_
  refine go_iconst (v := nI 2) dL_law_711 (by decide) ?_
  refine go_iaddN dL_law_712 ?_
  refine go_sld hX dL_law_713 (by omega) hL ?_
  refine go_b1 (B_stage κ _ _) hz dL_law_714 cvL_law_81 rfl rfl rfl (lwn_c ht (by decide) (by decide)) (fun x b τ Φ₂ hC2 hq2 => ?_)
  refine go_aload_n dL_law_717 rfl ?_
  refine go_aload_o dL_law_718 rfl ?_
  refine go_iload_n dL_law_719 rfl ?_
  refine go_iconst (v := nI 1) dL_law_720 (by decide) ?_
  refine go_iaddN dL_law_721 ?_
  refine go_sld hX dL_law_722 (by omega) hL ?_
  refine go_aload_o dL_law_723 rfl ?_
  refine go_iload_n dL_law_724 rfl ?_
  refine go_iconst (v := nI 2) dL_law_725 (by decide) ?_
  refine go_iaddN dL_law_726 ?_
  refine go_sld hX dL_law_727 (by omega) hL ?_
  exact go_b2 1273 hC2 hq2 dL_law_728 cvL_law_84 rfl rfl rfl (lwn_c ht (by decide) (by decide)) dL_law_731 (by decide) (fun υ hz => go_widen (m := lwn (t + 1)) (by unfold lwn; dsimp only; omega) (by unfold lwn; dsimp only; omega) (E b υ hz))
theorem lwc_16 (κ : gm_K) {Φ : Option Value → gm_H → Prop} {L : Nat} {xs : Nat → Int32} (hX : SCR κ L xs) (hL : L ≤ 2560) {t : Nat} (ht5 : 5 * t + 5 ≤ L) (b : Bool) (σ : wg_S) (hz : zS σ) (E : ∀ b σ, zS σ → Go κ mL_law 1273 (lwv t) [] (wd (gg b) σ) (lwn (t + 1)) Φ) : Go κ mL_law 736 (lwv t) [] (wd (gg b) σ) (lwn t) Φ := by
  have ht : t < 512 := by omega
  refine go_aload_n dL_law_736 rfl ?_
  refine go_aload_o dL_law_737 rfl ?_
  refine go_iload_n dL_law_738 rfl ?_
  refine go_iconst (v := nI 1) dL_law_739 (by decide) ?_
  refine go_iaddN dL_law_740 ?_
  refine go_sld hX dL_law_741 (by omega) hL ?_
  refine go_aload_o dL_law_742 rfl ?_
  refine go_iload_n dL_law_743 rfl ?_
  refine go_iconst (v := nI 2) dL_law_744 (by decide) ?_
  refine go_iaddN dL_law_745 ?_
  refine go_sld hX dL_law_746 (by omega) hL ?_
  refine go_b1 (B_tall κ _ _) hz dL_law_747 cvL_law_85 rfl rfl rfl (lwn_c ht (by decide) (by decide)) (fun x b τ Φ₂ hC2 hq2 => ?_)
  refine go_aload_n dL_law_750 rfl ?_
  refine go_aload_o dL_law_751 rfl ?_
  refine go_iload_n dL_law_752 rfl ?_
  refine go_iconst (v := nI 1) dL_law_753 (by decide) ?_
  refine go_iaddN dL_law_754 ?_
  refine go_sld hX dL_law_755 (by omega) hL ?_
  refine go_aload_o dL_law_756 rfl ?_
  refine go_iload_n dL_law_757 rfl ?_
  refine go_iconst (v := nI 2) dL_law_758 (by decide) ?_
  refine go_iaddN dL_law_759 ?_
  refine go_sld hX dL_law_760 (by omega) hL ?_
  exact go_b2 1273 hC2 hq2 dL_law_761 cvL_law_88 rfl rfl rfl (lwn_c ht (by decide) (by decide)) dL_law_764 (by decide) (fun υ hz => go_widen (m := lwn (t + 1)) (by unfold lwn; dsimp only; omega) (by unfold lwn; dsimp only; omega) (E b υ hz))
theorem lwc_17 (κ : gm_K) {Φ : Option Value → gm_H → Prop} {L : Nat} {xs : Nat → Int32} (hX : SCR κ L xs) (hL : L ≤ 2560) {t : Nat} (ht5 : 5 * t + 5 ≤ L) (b : Bool) (σ : wg_S) (hz : zS σ) (E : ∀ b σ, zS σ → Go κ mL_law 1273 (lwv t) [] (wd (gg b) σ) (lwn (t + 1)) Φ) : Go κ mL_law 769 (lwv t) [] (wd (gg b) σ) (lwn t) Φ := by
  have ht : t < 512 := by omega
  refine go_aload_n dL_law_769 rfl ?_
  refine go_aload_o dL_law_770 rfl ?_
  refine go_iload_n dL_law_771 rfl ?_
  refine go_iconst (v := nI 1) dL_law_772 (by decide) ?_
  refine go_iaddN dL_law_773 ?_
  refine go_sld hX dL_law_774 (by omega) hL ?_
  refine go_aload_o dL_law_775 rfl ?_
  refine go_iload_n dL_law_776 rfl ?_
  refine go_iconst (v := nI 2) dL_law_777 (by decide) ?_
  refine go_iaddN dL_law_778 ?_
  refine go_sld hX dL_law_779 (by omega) hL ?_
  refine go_aload_o dL_law_780 rfl ?_
  refine go_iload_n dL_law_781 rfl ?_
  refine go_iconst (v := nI 3) dL_law_782 (by decide) ?_
  refine go_iaddN dL_law_783 ?_
  refine go_sld hX dL_law_784 (by omega) hL ?_
  refine go_b1 (B_stand κ _ _ _) hz dL_law_785 cvL_law_89 rfl rfl rfl (lwn_c ht (by decide) (by decide)) (fun x b τ Φ₂ hC2 hq2 => ?_)
  refine go_aload_n dL_law_788 rfl ?_
  refine go_aload_o dL_law_789 rfl ?_
  refine go_iload_n dL_law_790 rfl ?_
  refine go_iconst (v := nI 1) dL_law_791 (by decide) ?_
  refine go_iaddN dL_law_792 ?_
  refine go_sld hX dL_law_793 (by omega) hL ?_
  refine go_aload_o dL_law_794 rfl ?_
  refine go_iload_n dL_law_795 rfl ?_
  refine go_iconst (v := nI 2) dL_law_796 (by decide) ?_
  refine go_iaddN dL_law_797 ?_
  refine go_sld hX dL_law_798 (by omega) hL ?_
  refine go_aload_o dL_law_799 rfl ?_
  refine go_iload_n dL_law_800 rfl ?_
  refine go_iconst (v := nI 3) dL_law_801 (by decide) ?_
  refine go_iaddN dL_law_802 ?_
  refine go_sld hX dL_law_803 (by omega) hL ?_
  exact go_b2 1273 hC2 hq2 dL_law_804 cvL_law_92 rfl rfl rfl (lwn_c ht (by decide) (by decide)) dL_law_807 (by decide) (fun υ hz => go_widen (m := lwn (t + 1)) (by unfold lwn; dsimp only; omega) (by unfold lwn; dsimp only; omega) (E b υ hz))
theorem lwc_18 (κ : gm_K) {Φ : Option Value → gm_H → Prop} {L : Nat} {xs : Nat → Int32} (hX : SCR κ L xs) (hL : L ≤ 2560) {t : Nat} (ht5 : 5 * t + 5 ≤ L) (b : Bool) (σ : wg_S) (hz : zS σ) (E : ∀ b σ, zS σ → Go κ mL_law 1273 (lwv t) [] (wd (gg b) σ) (lwn (t + 1)) Φ) : Go κ mL_law 812 (lwv t) [] (wd (gg b) σ) (lwn t) Φ := by
  have ht : t < 512 := by omega
  refine go_aload_n dL_law_812 rfl ?_
  refine go_aload_o dL_law_813 rfl ?_
  refine go_iload_n dL_law_814 rfl ?_
  refine go_iconst (v := nI 1) dL_law_815 (by decide) ?_
  refine go_iaddN dL_law_816 ?_
  refine go_sld hX dL_law_817 (by omega) hL ?_
  refine go_b1 (B_off κ _) hz dL_law_818 cvL_law_93 rfl rfl rfl (lwn_c ht (by decide) (by decide)) (fun x b τ Φ₂ hC2 hq2 => ?_)
  refine go_aload_n dL_law_821 rfl ?_
  refine go_aload_o dL_law_822 rfl ?_
  refine go_iload_n dL_law_823 rfl ?_
  refine go_iconst (v := nI 1) dL_law_824 (by decide) ?_
  refine go_iaddN dL_law_825 ?_
  refine go_sld hX dL_law_826 (by omega) hL ?_
  exact go_b2 1273 hC2 hq2 dL_law_827 cvL_law_96 rfl rfl rfl (lwn_c ht (by decide) (by decide)) dL_law_830 (by decide) (fun υ hz => go_widen (m := lwn (t + 1)) (by unfold lwn; dsimp only; omega) (by unfold lwn; dsimp only; omega) (E b υ hz))
theorem lwc_19 (κ : gm_K) {Φ : Option Value → gm_H → Prop} {L : Nat} {xs : Nat → Int32} (hX : SCR κ L xs) (hL : L ≤ 2560) {t : Nat} (ht5 : 5 * t + 5 ≤ L) (b : Bool) (σ : wg_S) (hz : zS σ) (E : ∀ b σ, zS σ → Go κ mL_law 1273 (lwv t) [] (wd (gg b) σ) (lwn (t + 1)) Φ) : Go κ mL_law 835 (lwv t) [] (wd (gg b) σ) (lwn t) Φ := by
  have ht : t < 512 := by omega
  refine go_aload_n dL_law_835 rfl ?_
  refine go_aload_o dL_law_836 rfl ?_
  refine go_iload_n dL_law_837 rfl ?_
  refine go_iconst (v := nI 1) dL_law_838 (by decide) ?_
  refine go_iaddN dL_law_839 ?_
  refine go_sld hX dL_law_840 (by omega) hL ?_
  refine go_b1 (B_well κ _) hz dL_law_841 cvL_law_97 rfl rfl rfl (lwn_c ht (by decide) (by decide)) (fun x b τ Φ₂ hC2 hq2 => ?_)
  refine go_aload_n dL_law_844 rfl ?_
  refine go_aload_o dL_law_845 rfl ?_
  refine go_iload_n dL_law_846 rfl ?_
  refine go_iconst (v := nI 1) dL_law_847 (by decide) ?_
  refine go_iaddN dL_law_848 ?_
  refine go_sld hX dL_law_849 (by omega) hL ?_
  exact go_b2 1273 hC2 hq2 dL_law_850 cvL_law_100 rfl rfl rfl (lwn_c ht (by decide) (by decide)) dL_law_853 (by decide) (fun υ hz => go_widen (m := lwn (t + 1)) (by unfold lwn; dsimp only; omega) (by unfold lwn; dsimp only; omega) (E b υ hz))
theorem lwc_20 (κ : gm_K) {Φ : Option Value → gm_H → Prop} {L : Nat} {xs : Nat → Int32} (hX : SCR κ L xs) (hL : L ≤ 2560) {t : Nat} (ht5 : 5 * t + 5 ≤ L) (b : Bool) (σ : wg_S) (hz : zS σ) (E : ∀ b σ, zS σ → Go κ mL_law 1273 (lwv t) [] (wd (gg b) σ) (lwn (t + 1)) Φ) : Go κ mL_law 858 (lwv t) [] (wd (gg b) σ) (lwn t) Φ := by
  have ht : t < 512 := by omega
  refine go_aload_n dL_law_858 rfl ?_
  refine go_b1 (B_clear κ) hz dL_law_859 cvL_law_101 rfl rfl rfl (lwn_c ht (by decide) (by decide)) (fun x b τ Φ₂ hC2 hq2 => ?_)
  refine go_aload_n dL_law_862 rfl ?_
  exact go_b2 1273 hC2 hq2 dL_law_863 cvL_law_104 rfl rfl rfl (lwn_c ht (by decide) (by decide)) dL_law_866 (by decide) (fun υ hz => go_widen (m := lwn (t + 1)) (by unfold lwn; dsimp only; omega) (by unfold lwn; dsimp only; omega) (E b υ hz))
theorem lwc_21 (κ : gm_K) {Φ : Option Value → gm_H → Prop} {L : Nat} {xs : Nat → Int32} (hX : SCR κ L xs) (hL : L ≤ 2560) {t : Nat} (ht5 : 5 * t + 5 ≤ L) (b : Bool) (σ : wg_S) (hz : zS σ) (E : ∀ b σ, zS σ → Go κ mL_law 1273 (lwv t) [] (wd (gg b) σ) (lwn (t + 1)) Φ) : Go κ mL_law 871 (lwv t) [] (wd (gg b) σ) (lwn t) Φ := by
  have ht : t < 512 := by omega
  refine go_aload_n dL_law_871 rfl ?_
  refine go_aload_o dL_law_872 rfl ?_
  refine go_iload_n dL_law_873 rfl ?_
  refine go_iconst (v := nI 1) dL_law_874 (by decide) ?_
  refine go_iaddN dL_law_875 ?_
  refine go_sld hX dL_law_876 (by omega) hL ?_
  refine go_aload_o dL_law_877 rfl ?_
  refine go_iload_n dL_law_878 rfl ?_
  refine go_iconst (v := nI 2) dL_law_879 (by decide) ?_
  refine go_iaddN dL_law_880 ?_
  refine go_sld hX dL_law_881 (by omega) hL ?_
  refine go_b1 (B_lay κ _ _) hz dL_law_882 cvL_law_105 rfl rfl rfl (lwn_c ht (by decide) (by decide)) (fun x b τ Φ₂ hC2 hq2 => ?_)
  refine go_aload_n dL_law_885 rfl ?_
  refine go_aload_o dL_law_886 rfl ?_
  refine go_iload_n dL_law_887 rfl ?_
  refine go_iconst (v := nI 1) dL_law_888 (by decide) ?_
  refine go_iaddN dL_law_889 ?_
  refine go_sld hX dL_law_890 (by omega) hL ?_
  refine go_aload_o dL_law_891 rfl ?_
  refine go_iload_n dL_law_892 rfl ?_
  refine go_iconst (v := nI 2) dL_law_893 (by decide) ?_
  refine go_iaddN dL_law_894 ?_
  refine go_sld hX dL_law_895 (by omega) hL ?_
  exact go_b2 1273 hC2 hq2 dL_law_896 cvL_law_108 rfl rfl rfl (lwn_c ht (by decide) (by decide)) dL_law_899 (by decide) (fun υ hz => go_widen (m := lwn (t + 1)) (by unfold lwn; dsimp only; omega) (by unfold lwn; dsimp only; omega) (E b υ hz))
theorem lwc_22 (κ : gm_K) {Φ : Option Value → gm_H → Prop} {L : Nat} {xs : Nat → Int32} (hX : SCR κ L xs) (hL : L ≤ 2560) {t : Nat} (ht5 : 5 * t + 5 ≤ L) (b : Bool) (σ : wg_S) (hz : zS σ) (E : ∀ b σ, zS σ → Go κ mL_law 1273 (lwv t) [] (wd (gg b) σ) (lwn (t + 1)) Φ) : Go κ mL_law 904 (lwv t) [] (wd (gg b) σ) (lwn t) Φ := by
  have ht : t < 512 := by omega
  refine go_aload_n dL_law_904 rfl ?_
  refine go_aload_o dL_law_905 rfl ?_
  refine go_iload_n dL_law_906 rfl ?_
  refine go_iconst (v := nI 1) dL_law_907 (by decide) ?_
  refine go_iaddN dL_law_908 ?_
  refine go_sld hX dL_law_909 (by omega) hL ?_
  refine go_aload_o dL_law_910 rfl ?_
  refine go_iload_n dL_law_911 rfl ?_
  refine go_iconst (v := nI 2) dL_law_912 (by decide) ?_
  refine go_iaddN dL_law_913 ?_
  refine go_sld hX dL_law_914 (by omega) hL ?_
  refine go_b1 (B_change κ _ _) hz dL_law_915 cvL_law_109 rfl rfl rfl (lwn_c ht (by decide) (by decide)) (fun x b τ Φ₂ hC2 hq2 => ?_)
  refine go_aload_n dL_law_918 rfl ?_
  refine go_aload_o dL_law_919 rfl ?_
  refine go_iload_n dL_law_920 rfl ?_
  refine go_iconst (v := nI 1) dL_law_921 (by decide) ?_
  refine go_iaddN dL_law_922 ?_
  refine go_sld hX dL_law_923 (by omega) hL ?_
  refine go_aload_o dL_law_924 rfl ?_
  refine go_iload_n dL_law_925 rfl ?_
  refine go_iconst (v := nI 2) dL_law_926 (by decide) ?_
  refine go_iaddN dL_law_927 ?_
  refine go_sld hX dL_law_928 (by omega) hL ?_
  exact go_b2 1273 hC2 hq2 dL_law_929 cvL_law_112 rfl rfl rfl (lwn_c ht (by decide) (by decide)) dL_law_932 (by decide) (fun υ hz => go_widen (m := lwn (t + 1)) (by unfold lwn; dsimp only; omega) (by unfold lwn; dsimp only; omega) (E b υ hz))
theorem lwc_23 (κ : gm_K) {Φ : Option Value → gm_H → Prop} {L : Nat} {xs : Nat → Int32} (hX : SCR κ L xs) (hL : L ≤ 2560) {t : Nat} (ht5 : 5 * t + 5 ≤ L) (b : Bool) (σ : wg_S) (hz : zS σ) (E : ∀ b σ, zS σ → Go κ mL_law 1273 (lwv t) [] (wd (gg b) σ) (lwn (t + 1)) Φ) : Go κ mL_law 937 (lwv t) [] (wd (gg b) σ) (lwn t) Φ := by
  have ht : t < 512 := by omega
  refine go_aload_n dL_law_937 rfl ?_
  refine go_aload_o dL_law_938 rfl ?_
  refine go_iload_n dL_law_939 rfl ?_
  refine go_iconst (v := nI 1) dL_law_940 (by decide) ?_
  refine go_iaddN dL_law_941 ?_
  refine go_sld hX dL_law_942 (by omega) hL ?_
  refine go_b1 (B_order κ _) hz dL_law_943 cvL_law_113 rfl rfl rfl (lwn_c ht (by decide) (by decide)) (fun x b τ Φ₂ hC2 hq2 => ?_)
  refine go_aload_n dL_law_946 rfl ?_
  refine go_aload_o dL_law_947 rfl ?_
  refine go_iload_n dL_law_948 rfl ?_
  refine go_iconst (v := nI 1) dL_law_949 (by decide) ?_
  refine go_iaddN dL_law_950 ?_
  refine go_sld hX dL_law_951 (by omega) hL ?_
  exact go_b2 1273 hC2 hq2 dL_law_952 cvL_law_116 rfl rfl rfl (lwn_c ht (by decide) (by decide)) dL_law_955 (by decide) (fun υ hz => go_widen (m := lwn (t + 1)) (by unfold lwn; dsimp only; omega) (by unfold lwn; dsimp only; omega) (E b υ hz))
theorem lwc_24 (κ : gm_K) {Φ : Option Value → gm_H → Prop} {L : Nat} {xs : Nat → Int32} (hX : SCR κ L xs) (hL : L ≤ 2560) {t : Nat} (ht5 : 5 * t + 5 ≤ L) (b : Bool) (σ : wg_S) (hz : zS σ) (E : ∀ b σ, zS σ → Go κ mL_law 1273 (lwv t) [] (wd (gg b) σ) (lwn (t + 1)) Φ) : Go κ mL_law 960 (lwv t) [] (wd (gg b) σ) (lwn t) Φ := by
  have ht : t < 512 := by omega
  refine go_aload_n dL_law_960 rfl ?_
  refine go_aload_o dL_law_961 rfl ?_
  refine go_iload_n dL_law_962 rfl ?_
  refine go_iconst (v := nI 1) dL_law_963 (by decide) ?_
  refine go_iaddN dL_law_964 ?_
  refine go_sld hX dL_law_965 (by omega) hL ?_
  refine go_b1 (B_ordered κ _) hz dL_law_966 cvL_law_117 rfl rfl rfl (lwn_c ht (by decide) (by decide)) (fun x b τ Φ₂ hC2 hq2 => ?_)
  refine go_aload_n dL_law_969 rfl ?_
  refine go_aload_o dL_law_970 rfl ?_
  refine go_iload_n dL_law_971 rfl ?_
  refine go_iconst (v := nI 1) dL_law_972 (by decide) ?_
  refine go_iaddN dL_law_973 ?_
  refine go_sld hX dL_law_974 (by omega) hL ?_
  exact go_b2 1273 hC2 hq2 dL_law_975 cvL_law_120 rfl rfl rfl (lwn_c ht (by decide) (by decide)) dL_law_978 (by decide) (fun υ hz => go_widen (m := lwn (t + 1)) (by unfold lwn; dsimp only; omega) (by unfold lwn; dsimp only; omega) (E b υ hz))
theorem lwc_25 (κ : gm_K) {Φ : Option Value → gm_H → Prop} {L : Nat} {xs : Nat → Int32} (hX : SCR κ L xs) (hL : L ≤ 2560) {t : Nat} (ht5 : 5 * t + 5 ≤ L) (b : Bool) (σ : wg_S) (hz : zS σ) (E : ∀ b σ, zS σ → Go κ mL_law 1273 (lwv t) [] (wd (gg b) σ) (lwn (t + 1)) Φ) : Go κ mL_law 983 (lwv t) [] (wd (gg b) σ) (lwn t) Φ := by
  have ht : t < 512 := by omega
  refine go_aload_n dL_law_983 rfl ?_
  refine go_aload_o dL_law_984 rfl ?_
  refine go_iload_n dL_law_985 rfl ?_
  refine go_iconst (v := nI 1) dL_law_986 (by decide) ?_
  refine go_iaddN dL_law_987 ?_
  refine go_sld hX dL_law_988 (by omega) hL ?_
  refine go_aload_o dL_law_989 rfl ?_
  refine go_iload_n dL_law_990 rfl ?_
  refine go_iconst (v := nI 2) dL_law_991 (by decide) ?_
  refine go_iaddN dL_law_992 ?_
  refine go_sld hX dL_law_993 (by omega) hL ?_
  refine go_aload_o dL_law_994 rfl ?_
  refine go_iload_n dL_law_995 rfl ?_
  refine go_iconst (v := nI 3) dL_law_996 (by decide) ?_
  refine go_iaddN dL_law_997 ?_
  refine go_sld hX dL_law_998 (by omega) hL ?_
  refine go_aload_o dL_law_999 rfl ?_
  refine go_iload_n dL_law_1000 rfl ?_
  refine go_iconst (v := nI 4) dL_law_1001 (by decide) ?_
  refine go_iaddN dL_law_1002 ?_
  refine go_sld hX dL_law_1003 (by omega) hL ?_
  refine go_b1 (B_rehearse κ _ _ _ _) hz dL_law_1004 cvL_law_121 rfl rfl rfl (lwn_c ht (by decide) (by decide)) (fun x b τ Φ₂ hC2 hq2 => ?_)
  refine go_aload_n dL_law_1007 rfl ?_
  refine go_aload_o dL_law_1008 rfl ?_
  refine go_iload_n dL_law_1009 rfl ?_
  refine go_iconst (v := nI 1) dL_law_1010 (by decide) ?_
  refine go_iaddN dL_law_1011 ?_
  refine go_sld hX dL_law_1012 (by omega) hL ?_
  refine go_aload_o dL_law_1013 rfl ?_
  refine go_iload_n dL_law_1014 rfl ?_
  refine go_iconst (v := nI 2) dL_law_1015 (by decide) ?_
  refine go_iaddN dL_law_1016 ?_
  refine go_sld hX dL_law_1017 (by omega) hL ?_
  refine go_aload_o dL_law_1018 rfl ?_
  refine go_iload_n dL_law_1019 rfl ?_
  refine go_iconst (v := nI 3) dL_law_1020 (by decide) ?_
  refine go_iaddN dL_law_1021 ?_
  refine go_sld hX dL_law_1022 (by omega) hL ?_
  refine go_aload_o dL_law_1023 rfl ?_
  refine go_iload_n dL_law_1024 rfl ?_
  refine go_iconst (v := nI 4) dL_law_1025 (by decide) ?_
  refine go_iaddN dL_law_1026 ?_
  refine go_sld hX dL_law_1027 (by omega) hL ?_
  exact go_b2 1273 hC2 hq2 dL_law_1028 cvL_law_124 rfl rfl rfl (lwn_c ht (by decide) (by decide)) dL_law_1031 (by decide) (fun υ hz => go_widen (m := lwn (t + 1)) (by unfold lwn; dsimp only; omega) (by unfold lwn; dsimp only; omega) (E b υ hz))
theorem lwc_26 (κ : gm_K) {Φ : Option Value → gm_H → Prop} {L : Nat} {xs : Nat → Int32} (hX : SCR κ L xs) (hL : L ≤ 2560) {t : Nat} (ht5 : 5 * t + 5 ≤ L) (b : Bool) (σ : wg_S) (hz : zS σ) (E : ∀ b σ, zS σ → Go κ mL_law 1273 (lwv t) [] (wd (gg b) σ) (lwn (t + 1)) Φ) : Go κ mL_law 1036 (lwv t) [] (wd (gg b) σ) (lwn t) Φ := by
  have ht : t < 512 := by omega
  refine go_aload_n dL_law_1036 rfl ?_
  refine go_aload_o dL_law_1037 rfl ?_
  refine go_iload_n dL_law_1038 rfl ?_
  refine go_iconst (v := nI 1) dL_law_1039 (by decide) ?_
  refine go_iaddN dL_law_1040 ?_
  refine go_sld hX dL_law_1041 (by omega) hL ?_
  refine go_aload_o dL_law_1042 rfl ?_
  refine go_iload_n dL_law_1043 rfl ?_
  refine go_iconst (v := nI 2) dL_law_1044 (by decide) ?_
  refine go_iaddN dL_law_1045 ?_
  refine go_sld hX dL_law_1046 (by omega) hL ?_
  refine go_b1 (B_hall κ _ _) hz dL_law_1047 cvL_law_125 rfl rfl rfl (lwn_c ht (by decide) (by decide)) (fun x b τ Φ₂ hC2 hq2 => ?_)
  refine go_aload_n dL_law_1050 rfl ?_
  refine go_aload_o dL_law_1051 rfl ?_
  refine go_iload_n dL_law_1052 rfl ?_
  refine go_iconst (v := nI 1) dL_law_1053 (by decide) ?_
  refine go_iaddN dL_law_1054 ?_
  refine go_sld hX dL_law_1055 (by omega) hL ?_
  refine go_aload_o dL_law_1056 rfl ?_
  refine go_iload_n dL_law_1057 rfl ?_
  refine go_iconst (v := nI 2) dL_law_1058 (by decide) ?_
  refine go_iaddN dL_law_1059 ?_
  refine go_sld hX dL_law_1060 (by omega) hL ?_
  exact go_b2 1273 hC2 hq2 dL_law_1061 cvL_law_128 rfl rfl rfl (lwn_c ht (by decide) (by decide)) dL_law_1064 (by decide) (fun υ hz => go_widen (m := lwn (t + 1)) (by unfold lwn; dsimp only; omega) (by unfold lwn; dsimp only; omega) (E b υ hz))
theorem lwc_27 (κ : gm_K) {Φ : Option Value → gm_H → Prop} {L : Nat} {xs : Nat → Int32} (hX : SCR κ L xs) (hL : L ≤ 2560) {t : Nat} (ht5 : 5 * t + 5 ≤ L) (b : Bool) (σ : wg_S) (hz : zS σ) (E : ∀ b σ, zS σ → Go κ mL_law 1273 (lwv t) [] (wd (gg b) σ) (lwn (t + 1)) Φ) : Go κ mL_law 1069 (lwv t) [] (wd (gg b) σ) (lwn t) Φ := by
  have ht : t < 512 := by omega
  refine go_aload_n dL_law_1069 rfl ?_
  refine go_aload_o dL_law_1070 rfl ?_
  refine go_iload_n dL_law_1071 rfl ?_
  refine go_iconst (v := nI 1) dL_law_1072 (by decide) ?_
  refine go_iaddN dL_law_1073 ?_
  refine go_sld hX dL_law_1074 (by omega) hL ?_
  refine go_b1 (B_whole κ _) hz dL_law_1075 cvL_law_129 rfl rfl rfl (lwn_c ht (by decide) (by decide)) (fun x b τ Φ₂ hC2 hq2 => ?_)
  refine go_aload_n dL_law_1078 rfl ?_
  refine go_aload_o dL_law_1079 rfl ?_
  refine go_iload_n dL_law_1080 rfl ?_
  refine go_iconst (v := nI 1) dL_law_1081 (by decide) ?_
  refine go_iaddN dL_law_1082 ?_
  refine go_sld hX dL_law_1083 (by omega) hL ?_
  exact go_b2 1273 hC2 hq2 dL_law_1084 cvL_law_132 rfl rfl rfl (lwn_c ht (by decide) (by decide)) dL_law_1087 (by decide) (fun υ hz => go_widen (m := lwn (t + 1)) (by unfold lwn; dsimp only; omega) (by unfold lwn; dsimp only; omega) (E b υ hz))
theorem lwc_28 (κ : gm_K) {Φ : Option Value → gm_H → Prop} {L : Nat} {xs : Nat → Int32} (hX : SCR κ L xs) (hL : L ≤ 2560) {t : Nat} (ht5 : 5 * t + 5 ≤ L) (b : Bool) (σ : wg_S) (hz : zS σ) (E : ∀ b σ, zS σ → Go κ mL_law 1273 (lwv t) [] (wd (gg b) σ) (lwn (t + 1)) Φ) : Go κ mL_law 1092 (lwv t) [] (wd (gg b) σ) (lwn t) Φ := by
  have ht : t < 512 := by omega
  refine go_aload_n dL_law_1092 rfl ?_
  refine go_aload_o dL_law_1093 rfl ?_
  refine go_iload_n dL_law_1094 rfl ?_
  refine go_iconst (v := nI 1) dL_law_1095 (by decide) ?_
  refine go_iaddN dL_law_1096 ?_
  refine go_sld hX dL_law_1097 (by omega) hL ?_
  refine go_aload_o dL_law_1098 rfl ?_
  refine go_iload_n dL_law_1099 rfl ?_
  refine go_iconst (v := nI 2) dL_law_1100 (by decide) ?_
  refine go_iaddN dL_law_1101 ?_
  refine go_sld hX dL_law_1102 (by omega) hL ?_
  refine go_b1 (B_beds κ _ _) hz dL_law_1103 cvL_law_133 rfl rfl rfl (lwn_c ht (by decide) (by decide)) (fun x b τ Φ₂ hC2 hq2 => ?_)
  refine go_aload_n dL_law_1106 rfl ?_
  refine go_aload_o dL_law_1107 rfl ?_
  refine go_iload_n dL_law_1108 rfl ?_
  refine go_iconst (v := nI 1) dL_law_1109 (by decide) ?_
  refine go_iaddN dL_law_1110 ?_
  refine go_sld hX dL_law_1111 (by omega) hL ?_
  refine go_aload_o dL_law_1112 rfl ?_
  refine go_iload_n dL_law_1113 rfl ?_
  refine go_iconst (v := nI 2) dL_law_1114 (by decide) ?_
  refine go_iaddN dL_law_1115 ?_
  refine go_sld hX dL_law_1116 (by omega) hL ?_
  exact go_b2 1273 hC2 hq2 dL_law_1117 cvL_law_136 rfl rfl rfl (lwn_c ht (by decide) (by decide)) dL_law_1120 (by decide) (fun υ hz => go_widen (m := lwn (t + 1)) (by unfold lwn; dsimp only; omega) (by unfold lwn; dsimp only; omega) (E b υ hz))
theorem lwc_29 (κ : gm_K) {Φ : Option Value → gm_H → Prop} {L : Nat} {xs : Nat → Int32} (hX : SCR κ L xs) (hL : L ≤ 2560) {t : Nat} (ht5 : 5 * t + 5 ≤ L) (b : Bool) (σ : wg_S) (hz : zS σ) (E : ∀ b σ, zS σ → Go κ mL_law 1273 (lwv t) [] (wd (gg b) σ) (lwn (t + 1)) Φ) : Go κ mL_law 1125 (lwv t) [] (wd (gg b) σ) (lwn t) Φ := by
  have ht : t < 512 := by omega
  refine go_aload_n dL_law_1125 rfl ?_
  refine go_aload_o dL_law_1126 rfl ?_
  refine go_iload_n dL_law_1127 rfl ?_
  refine go_iconst (v := nI 1) dL_law_1128 (by decide) ?_
  refine go_iaddN dL_law_1129 ?_
  refine go_sld hX dL_law_1130 (by omega) hL ?_
  refine go_aload_o dL_law_1131 rfl ?_
  refine go_iload_n dL_law_1132 rfl ?_
  refine go_iconst (v := nI 2) dL_law_1133 (by decide) ?_
  refine go_iaddN dL_law_1134 ?_
  refine go_sld hX dL_law_1135 (by omega) hL ?_
  refine go_b1 (B_sleep κ _ _) hz dL_law_1136 cvL_law_137 rfl rfl rfl (lwn_c ht (by decide) (by decide)) (fun x b τ Φ₂ hC2 hq2 => ?_)
  refine go_aload_n dL_law_1139 rfl ?_
  refine go_aload_o dL_law_1140 rfl ?_
  refine go_iload_n dL_law_1141 rfl ?_
  refine go_iconst (v := nI 1) dL_law_1142 (by decide) ?_
  refine go_iaddN dL_law_1143 ?_
  refine go_sld hX dL_law_1144 (by omega) hL ?_
  refine go_aload_o dL_law_1145 rfl ?_
  refine go_iload_n dL_law_1146 rfl ?_
  refine go_iconst (v := nI 2) dL_law_1147 (by decide) ?_
  refine go_iaddN dL_law_1148 ?_
  refine go_sld hX dL_law_1149 (by omega) hL ?_
  exact go_b2 1273 hC2 hq2 dL_law_1150 cvL_law_140 rfl rfl rfl (lwn_c ht (by decide) (by decide)) dL_law_1153 (by decide) (fun υ hz => go_widen (m := lwn (t + 1)) (by unfold lwn; dsimp only; omega) (by unfold lwn; dsimp only; omega) (E b υ hz))
theorem lwc_30 (κ : gm_K) {Φ : Option Value → gm_H → Prop} {L : Nat} {xs : Nat → Int32} (hX : SCR κ L xs) (hL : L ≤ 2560) {t : Nat} (ht5 : 5 * t + 5 ≤ L) (b : Bool) (σ : wg_S) (hz : zS σ) (E : ∀ b σ, zS σ → Go κ mL_law 1273 (lwv t) [] (wd (gg b) σ) (lwn (t + 1)) Φ) : Go κ mL_law 1158 (lwv t) [] (wd (gg b) σ) (lwn t) Φ := by
  have ht : t < 512 := by omega
  refine go_aload_n dL_law_1158 rfl ?_
  refine go_aload_o dL_law_1159 rfl ?_
  refine go_iload_n dL_law_1160 rfl ?_
  refine go_iconst (v := nI 1) dL_law_1161 (by decide) ?_
  refine go_iaddN dL_law_1162 ?_
  refine go_sld hX dL_law_1163 (by omega) hL ?_
  refine go_b1 (B_bed κ _) hz dL_law_1164 cvL_law_141 rfl rfl rfl (lwn_c ht (by decide) (by decide)) (fun x b τ Φ₂ hC2 hq2 => ?_)
  refine go_aload_n dL_law_1167 rfl ?_
  refine go_aload_o dL_law_1168 rfl ?_
  refine go_iload_n dL_law_1169 rfl ?_
  refine go_iconst (v := nI 1) dL_law_1170 (by decide) ?_
  refine go_iaddN dL_law_1171 ?_
  refine go_sld hX dL_law_1172 (by omega) hL ?_
  exact go_b2 1273 hC2 hq2 dL_law_1173 cvL_law_144 rfl rfl rfl (lwn_c ht (by decide) (by decide)) dL_law_1176 (by decide) (fun υ hz => go_widen (m := lwn (t + 1)) (by unfold lwn; dsimp only; omega) (by unfold lwn; dsimp only; omega) (E b υ hz))
theorem lwc_31 (κ : gm_K) {Φ : Option Value → gm_H → Prop} {L : Nat} {xs : Nat → Int32} (hX : SCR κ L xs) (hL : L ≤ 2560) {t : Nat} (ht5 : 5 * t + 5 ≤ L) (b : Bool) (σ : wg_S) (hz : zS σ) (E : ∀ b σ, zS σ → Go κ mL_law 1273 (lwv t) [] (wd (gg b) σ) (lwn (t + 1)) Φ) : Go κ mL_law 1181 (lwv t) [] (wd (gg b) σ) (lwn t) Φ := by
  have ht : t < 512 := by omega
  refine go_aload_n dL_law_1181 rfl ?_
  refine go_aload_o dL_law_1182 rfl ?_
  refine go_iload_n dL_law_1183 rfl ?_
  refine go_iconst (v := nI 1) dL_law_1184 (by decide) ?_
  refine go_iaddN dL_law_1185 ?_
  refine go_sld hX dL_law_1186 (by omega) hL ?_
  refine go_b1 (B_march κ _) hz dL_law_1187 cvL_law_145 rfl rfl rfl (lwn_c ht (by decide) (by decide)) (fun x b τ Φ₂ hC2 hq2 => ?_)
  refine go_aload_n dL_law_1190 rfl ?_
  refine go_aload_o dL_law_1191 rfl ?_
  refine go_iload_n dL_law_1192 rfl ?_
  refine go_iconst (v := nI 1) dL_law_1193 (by decide) ?_
  refine go_iaddN dL_law_1194 ?_
  refine go_sld hX dL_law_1195 (by omega) hL ?_
  exact go_b2 1273 hC2 hq2 dL_law_1196 cvL_law_148 rfl rfl rfl (lwn_c ht (by decide) (by decide)) dL_law_1199 (by decide) (fun υ hz => go_widen (m := lwn (t + 1)) (by unfold lwn; dsimp only; omega) (by unfold lwn; dsimp only; omega) (E b υ hz))
theorem lwc_32 (κ : gm_K) {Φ : Option Value → gm_H → Prop} {L : Nat} {xs : Nat → Int32} (hX : SCR κ L xs) (hL : L ≤ 2560) {t : Nat} (ht5 : 5 * t + 5 ≤ L) (b : Bool) (σ : wg_S) (hz : zS σ) (E : ∀ b σ, zS σ → Go κ mL_law 1273 (lwv t) [] (wd (gg b) σ) (lwn (t + 1)) Φ) : Go κ mL_law 1204 (lwv t) [] (wd (gg b) σ) (lwn t) Φ := by
  have ht : t < 512 := by omega
  refine go_aload_n dL_law_1204 rfl ?_
  refine go_aload_o dL_law_1205 rfl ?_
  refine go_iload_n dL_law_1206 rfl ?_
  refine go_iconst (v := nI 1) dL_law_1207 (by decide) ?_
  refine go_iaddN dL_law_1208 ?_
  refine go_sld hX dL_law_1209 (by omega) hL ?_
  refine go_b1 (B_leave κ _) hz dL_law_1210 cvL_law_149 rfl rfl rfl (lwn_c ht (by decide) (by decide)) (fun x b τ Φ₂ hC2 hq2 => ?_)
  refine go_aload_n dL_law_1213 rfl ?_
  refine go_aload_o dL_law_1214 rfl ?_
  refine go_iload_n dL_law_1215 rfl ?_
  refine go_iconst (v := nI 1) dL_law_1216 (by decide) ?_
  refine go_iaddN dL_law_1217 ?_
  refine go_sld hX dL_law_1218 (by omega) hL ?_
  exact go_b2 1273 hC2 hq2 dL_law_1219 cvL_law_152 rfl rfl rfl (lwn_c ht (by decide) (by decide)) dL_law_1222 (by decide) (fun υ hz => go_widen (m := lwn (t + 1)) (by unfold lwn; dsimp only; omega) (by unfold lwn; dsimp only; omega) (E b υ hz))
theorem lwc_33 (κ : gm_K) {Φ : Option Value → gm_H → Prop} {L : Nat} {xs : Nat → Int32} (hX : SCR κ L xs) (hL : L ≤ 2560) {t : Nat} (ht5 : 5 * t + 5 ≤ L) (b : Bool) (σ : wg_S) (hz : zS σ) (E : ∀ b σ, zS σ → Go κ mL_law 1273 (lwv t) [] (wd (gg b) σ) (lwn (t + 1)) Φ) : Go κ mL_law 1227 (lwv t) [] (wd (gg b) σ) (lwn t) Φ := by
  have ht : t < 512 := by omega
  refine go_aload_n dL_law_1227 rfl ?_
  refine go_aload_o dL_law_1228 rfl ?_
  refine go_iload_n dL_law_1229 rfl ?_
  refine go_iconst (v := nI 1) dL_law_1230 (by decide) ?_
  refine go_iaddN dL_law_1231 ?_
  refine go_sld hX dL_law_1232 (by omega) hL ?_
  refine go_b1 (B_gap κ _) hz dL_law_1233 cvL_law_153 rfl rfl rfl (lwn_c ht (by decide) (by decide)) (fun x b τ Φ₂ hC2 hq2 => ?_)
  refine go_aload_n dL_law_1236 rfl ?_
  refine go_aload_o dL_law_1237 rfl ?_
  refine go_iload_n dL_law_1238 rfl ?_
  refine go_iconst (v := nI 1) dL_law_1239 (by decide) ?_
  refine go_iaddN dL_law_1240 ?_
  refine go_sld hX dL_law_1241 (by omega) hL ?_
  exact go_b2 1273 hC2 hq2 dL_law_1242 cvL_law_156 rfl rfl rfl (lwn_c ht (by decide) (by decide)) dL_law_1245 (by decide) (fun υ hz => go_widen (m := lwn (t + 1)) (by unfold lwn; dsimp only; omega) (by unfold lwn; dsimp only; omega) (E b υ hz))
theorem lwc_34 (κ : gm_K) {Φ : Option Value → gm_H → Prop} {L : Nat} {xs : Nat → Int32} (hX : SCR κ L xs) (hL : L ≤ 2560) {t : Nat} (ht5 : 5 * t + 5 ≤ L) (b : Bool) (σ : wg_S) (hz : zS σ) (E : ∀ b σ, zS σ → Go κ mL_law 1273 (lwv t) [] (wd (gg b) σ) (lwn (t + 1)) Φ) : Go κ mL_law 1250 (lwv t) [] (wd (gg b) σ) (lwn t) Φ := by
  have ht : t < 512 := by omega
  refine go_aload_n dL_law_1250 rfl ?_
  refine go_aload_o dL_law_1251 rfl ?_
  refine go_iload_n dL_law_1252 rfl ?_
  refine go_iconst (v := nI 1) dL_law_1253 (by decide) ?_
  refine go_iaddN dL_law_1254 ?_
  refine go_sld hX dL_law_1255 (by omega) hL ?_
  refine go_b1 (B_count κ _) hz dL_law_1256 cvL_law_157 rfl rfl rfl (lwn_c ht (by decide) (by decide)) (fun x b τ Φ₂ hC2 hq2 => ?_)
  refine go_aload_n dL_law_1259 rfl ?_
  refine go_aload_o dL_law_1260 rfl ?_
  refine go_iload_n dL_law_1261 rfl ?_
  refine go_iconst (v := nI 1) dL_law_1262 (by decide) ?_
  refine go_iaddN dL_law_1263 ?_
  refine go_sld hX dL_law_1264 (by omega) hL ?_
  exact go_b2 1273 hC2 hq2 dL_law_1265 cvL_law_160 rfl rfl rfl (lwn_c ht (by decide) (by decide)) dL_law_1268 (by decide) (fun υ hz => go_widen (m := lwn (t + 1)) (by unfold lwn; dsimp only; omega) (by unfold lwn; dsimp only; omega) (E b υ hz))
