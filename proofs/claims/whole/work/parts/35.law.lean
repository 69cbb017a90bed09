/-! THE LAW'S WALK -/
theorem vp_at {x k : Nat} {L : Nat} (hk : k < 8) (hL : L ≤ 4096) (hx : x + 8 ≤ L) : vp_in (nI x + nI k) L := by
  rw [nI_add]
  exact vp_in_nI (by omega) (by omega)
section LAW
variable {L : Nat} {xs : Nat → Int32} {n : Nat → Nat} {l : Nat → Nat → Int32} {o s p : Nat → Int32} {f : ZH} {kc ks : Nat} {P : Option ZVal → Nat → ZH → Prop} {x : Int32}
theorem lw_c0 (hv : ∀ k, 0 < k → k < 8 → vp_in (x + nI k) L) (hkc : kc ≤ 600000) (hks : ks ≤ 7302250) (hI : Inv n l o s p) (hC : CP f n l o s p) (hM : MP f n l o s p) (k : ∀ f' n' l' o' s' p', Inv n' l' o' s' p' → CP f' n' l' o' s' p' → MP f' n' l' o' s' p' → Zv (some (L, xs)) 125 878 [some zsc, some (zr 0), some (zr 37), some (zi x)] [] 45 f' kc ks P) : Zv (some (L, xs)) 125 136 [some zsc, some (zr 0), some (zr 37), some (zi x)] [] 45 f kc ks P := by
  have hv1 : vp_in (x + 1) L := hv 1 (by decide) (by decide)
  have hv2 : vp_in (x + 2) L := hv 2 (by decide) (by decide)
  have h0 := hC.1.1
  first | refine rL_law_136 ?_ | refine rL_law_136n ?_
  refine rL_law_137s ?_
  refine rL_law_138 ?_
  refine rL_law_139 ?_
  refine rL_law_140 ?_
  refine rL_law_141 hv1 ?_
  refine rL_law_142s ?_
  refine rL_law_143 ?_
  refine rL_law_144 ?_
  refine rL_law_145 ?_
  refine rL_law_146 hv2 ?_
  refine rL_law_147 ⟨by omega, by omega⟩ (by repeat first | assumption | exact zup_eq | refine (zup_ne (by first | decide | omega)).trans ?_) ?_
  obtain ⟨v, n1, l1, o1, s1, p1, hI1, hc, hm⟩ := pr_rosette hI (xs (x + 1).toNatClampNeg) (xs (x + 2).toNatClampNeg)
  refine hc f _ _ hC (fun f1 hC1 e1 => ?_)
  have hM1 := MP_hi hM e1
  have h37 := hM1.1
  first | refine rL_law_150 ?_ | refine rL_law_150n ?_
  refine rL_law_151s ?_
  refine rL_law_152 ?_
  refine rL_law_153 ?_
  refine rL_law_154 ?_
  refine rL_law_155 hv1 ?_
  refine rL_law_156s ?_
  refine rL_law_157 ?_
  refine rL_law_158 ?_
  refine rL_law_159 ?_
  refine rL_law_160 hv2 ?_
  refine rL_law_161 ⟨by omega, by omega⟩ (by repeat first | assumption | exact zup_eq | refine (zup_ne (by first | decide | omega)).trans ?_) ?_
  refine hm f1 _ _ hM1 (fun f2 hM2 e2 => ?_)
  have hC2 := CP_lo hC1 e2
  refine rL_law_164 (fun _ => ?_) (fun hbb => absurd rfl hbb)
  exact k f2 n1 l1 o1 s1 p1 hI1 hC2 hM2
theorem lw_c1 (hv : ∀ k, 0 < k → k < 8 → vp_in (x + nI k) L) (hkc : kc ≤ 600000) (hks : ks ≤ 7302250) (hI : Inv n l o s p) (hC : CP f n l o s p) (hM : MP f n l o s p) (k : ∀ f' n' l' o' s' p', Inv n' l' o' s' p' → CP f' n' l' o' s' p' → MP f' n' l' o' s' p' → Zv (some (L, xs)) 125 878 [some zsc, some (zr 0), some (zr 37), some (zi x)] [] 45 f' kc ks P) : Zv (some (L, xs)) 125 169 [some zsc, some (zr 0), some (zr 37), some (zi x)] [] 45 f kc ks P := by
  have hv1 : vp_in (x + 1) L := hv 1 (by decide) (by decide)
  have hv2 : vp_in (x + 2) L := hv 2 (by decide) (by decide)
  have hv3 : vp_in (x + 3) L := hv 3 (by decide) (by decide)
  have h0 := hC.1.1
  first | refine rL_law_169 ?_ | refine rL_law_169n ?_
  refine rL_law_170s ?_
  refine rL_law_171 ?_
  refine rL_law_172 ?_
  refine rL_law_173 ?_
  refine rL_law_174 hv1 ?_
  refine rL_law_175s ?_
  refine rL_law_176 ?_
  refine rL_law_177 ?_
  refine rL_law_178 ?_
  refine rL_law_179 hv2 ?_
  refine rL_law_180s ?_
  refine rL_law_181 ?_
  refine rL_law_182 ?_
  refine rL_law_183 ?_
  refine rL_law_184 hv3 ?_
  refine rL_law_185 ⟨by omega, by omega⟩ (by repeat first | assumption | exact zup_eq | refine (zup_ne (by first | decide | omega)).trans ?_) ?_
  obtain ⟨v, n1, l1, o1, s1, p1, hI1, hc, hm⟩ := pr_lift hI (xs (x + 1).toNatClampNeg) (xs (x + 2).toNatClampNeg) (xs (x + 3).toNatClampNeg)
  refine hc f _ _ hC (fun f1 hC1 e1 => ?_)
  have hM1 := MP_hi hM e1
  have h37 := hM1.1
  first | refine rL_law_188 ?_ | refine rL_law_188n ?_
  refine rL_law_189s ?_
  refine rL_law_190 ?_
  refine rL_law_191 ?_
  refine rL_law_192 ?_
  refine rL_law_193 hv1 ?_
  refine rL_law_194s ?_
  refine rL_law_195 ?_
  refine rL_law_196 ?_
  refine rL_law_197 ?_
  refine rL_law_198 hv2 ?_
  refine rL_law_199s ?_
  refine rL_law_200 ?_
  refine rL_law_201 ?_
  refine rL_law_202 ?_
  refine rL_law_203 hv3 ?_
  refine rL_law_204 ⟨by omega, by omega⟩ (by repeat first | assumption | exact zup_eq | refine (zup_ne (by first | decide | omega)).trans ?_) ?_
  refine hm f1 _ _ hM1 (fun f2 hM2 e2 => ?_)
  have hC2 := CP_lo hC1 e2
  refine rL_law_207 (fun _ => ?_) (fun hbb => absurd rfl hbb)
  exact k f2 n1 l1 o1 s1 p1 hI1 hC2 hM2
theorem lw_c2 (hv : ∀ k, 0 < k → k < 8 → vp_in (x + nI k) L) (hkc : kc ≤ 600000) (hks : ks ≤ 7302250) (hI : Inv n l o s p) (hC : CP f n l o s p) (hM : MP f n l o s p) (k : ∀ f' n' l' o' s' p', Inv n' l' o' s' p' → CP f' n' l' o' s' p' → MP f' n' l' o' s' p' → Zv (some (L, xs)) 125 878 [some zsc, some (zr 0), some (zr 37), some (zi x)] [] 45 f' kc ks P) : Zv (some (L, xs)) 125 212 [some zsc, some (zr 0), some (zr 37), some (zi x)] [] 45 f kc ks P := by
  have hv1 : vp_in (x + 1) L := hv 1 (by decide) (by decide)
  have hv2 : vp_in (x + 2) L := hv 2 (by decide) (by decide)
  have h0 := hC.1.1
  first | refine rL_law_212 ?_ | refine rL_law_212n ?_
  refine rL_law_213s ?_
  refine rL_law_214 ?_
  refine rL_law_215 ?_
  refine rL_law_216 ?_
  refine rL_law_217 hv1 ?_
  refine rL_law_218s ?_
  refine rL_law_219 ?_
  refine rL_law_220 ?_
  refine rL_law_221 ?_
  refine rL_law_222 hv2 ?_
  refine rL_law_223 ⟨by omega, by omega⟩ (by repeat first | assumption | exact zup_eq | refine (zup_ne (by first | decide | omega)).trans ?_) ?_
  obtain ⟨v, n1, l1, o1, s1, p1, hI1, hc, hm⟩ := pr_at hI (xs (x + 1).toNatClampNeg) (xs (x + 2).toNatClampNeg)
  refine hc f _ _ hC (fun f1 hC1 e1 => ?_)
  have hM1 := MP_hi hM e1
  have h37 := hM1.1
  first | refine rL_law_226 ?_ | refine rL_law_226n ?_
  refine rL_law_227s ?_
  refine rL_law_228 ?_
  refine rL_law_229 ?_
  refine rL_law_230 ?_
  refine rL_law_231 hv1 ?_
  refine rL_law_232s ?_
  refine rL_law_233 ?_
  refine rL_law_234 ?_
  refine rL_law_235 ?_
  refine rL_law_236 hv2 ?_
  refine rL_law_237 ⟨by omega, by omega⟩ (by repeat first | assumption | exact zup_eq | refine (zup_ne (by first | decide | omega)).trans ?_) ?_
  refine hm f1 _ _ hM1 (fun f2 hM2 e2 => ?_)
  have hC2 := CP_lo hC1 e2
  refine rL_law_240 (fun _ => ?_) (fun hbb => absurd rfl hbb)
  exact k f2 n1 l1 o1 s1 p1 hI1 hC2 hM2
theorem lw_c3 (hv : ∀ k, 0 < k → k < 8 → vp_in (x + nI k) L) (hkc : kc ≤ 600000) (hks : ks ≤ 7302250) (hI : Inv n l o s p) (hC : CP f n l o s p) (hM : MP f n l o s p) (k : ∀ f' n' l' o' s' p', Inv n' l' o' s' p' → CP f' n' l' o' s' p' → MP f' n' l' o' s' p' → Zv (some (L, xs)) 125 878 [some zsc, some (zr 0), some (zr 37), some (zi x)] [] 45 f' kc ks P) : Zv (some (L, xs)) 125 245 [some zsc, some (zr 0), some (zr 37), some (zi x)] [] 45 f kc ks P := by
  have hv1 : vp_in (x + 1) L := hv 1 (by decide) (by decide)
  have hv2 : vp_in (x + 2) L := hv 2 (by decide) (by decide)
  have h0 := hC.1.1
  first | refine rL_law_245 ?_ | refine rL_law_245n ?_
  refine rL_law_246s ?_
  refine rL_law_247 ?_
  refine rL_law_248 ?_
  refine rL_law_249 ?_
  refine rL_law_250 hv1 ?_
  refine rL_law_251s ?_
  refine rL_law_252 ?_
  refine rL_law_253 ?_
  refine rL_law_254 ?_
  refine rL_law_255 hv2 ?_
  refine rL_law_256 ⟨by omega, by omega⟩ (by repeat first | assumption | exact zup_eq | refine (zup_ne (by first | decide | omega)).trans ?_) ?_
  obtain ⟨v, n1, l1, o1, s1, p1, hI1, hc, hm⟩ := pr_about hI (xs (x + 1).toNatClampNeg) (xs (x + 2).toNatClampNeg)
  refine hc f _ _ hC (fun f1 hC1 e1 => ?_)
  have hM1 := MP_hi hM e1
  have h37 := hM1.1
  first | refine rL_law_259 ?_ | refine rL_law_259n ?_
  refine rL_law_260s ?_
  refine rL_law_261 ?_
  refine rL_law_262 ?_
  refine rL_law_263 ?_
  refine rL_law_264 hv1 ?_
  refine rL_law_265s ?_
  refine rL_law_266 ?_
  refine rL_law_267 ?_
  refine rL_law_268 ?_
  refine rL_law_269 hv2 ?_
  refine rL_law_270 ⟨by omega, by omega⟩ (by repeat first | assumption | exact zup_eq | refine (zup_ne (by first | decide | omega)).trans ?_) ?_
  refine hm f1 _ _ hM1 (fun f2 hM2 e2 => ?_)
  have hC2 := CP_lo hC1 e2
  refine rL_law_273 (fun _ => ?_) (fun hbb => absurd rfl hbb)
  exact k f2 n1 l1 o1 s1 p1 hI1 hC2 hM2
theorem lw_c4 (hv : ∀ k, 0 < k → k < 8 → vp_in (x + nI k) L) (hkc : kc ≤ 600000) (hks : ks ≤ 7302250) (hI : Inv n l o s p) (hC : CP f n l o s p) (hM : MP f n l o s p) (k : ∀ f' n' l' o' s' p', Inv n' l' o' s' p' → CP f' n' l' o' s' p' → MP f' n' l' o' s' p' → Zv (some (L, xs)) 125 878 [some zsc, some (zr 0), some (zr 37), some (zi x)] [] 45 f' kc ks P) : Zv (some (L, xs)) 125 278 [some zsc, some (zr 0), some (zr 37), some (zi x)] [] 45 f kc ks P := by
  have hv1 : vp_in (x + 1) L := hv 1 (by decide) (by decide)
  have hv2 : vp_in (x + 2) L := hv 2 (by decide) (by decide)
  have h0 := hC.1.1
  first | refine rL_law_278 ?_ | refine rL_law_278n ?_
  refine rL_law_279s ?_
  refine rL_law_280 ?_
  refine rL_law_281 ?_
  refine rL_law_282 ?_
  refine rL_law_283 hv1 ?_
  refine rL_law_284s ?_
  refine rL_law_285 ?_
  refine rL_law_286 ?_
  refine rL_law_287 ?_
  refine rL_law_288 hv2 ?_
  refine rL_law_289 ⟨by omega, by omega⟩ (by repeat first | assumption | exact zup_eq | refine (zup_ne (by first | decide | omega)).trans ?_) ?_
  obtain ⟨v, n1, l1, o1, s1, p1, hI1, hc, hm⟩ := pr_name hI (xs (x + 1).toNatClampNeg) (xs (x + 2).toNatClampNeg)
  refine hc f _ _ hC (fun f1 hC1 e1 => ?_)
  have hM1 := MP_hi hM e1
  have h37 := hM1.1
  first | refine rL_law_292 ?_ | refine rL_law_292n ?_
  refine rL_law_293s ?_
  refine rL_law_294 ?_
  refine rL_law_295 ?_
  refine rL_law_296 ?_
  refine rL_law_297 hv1 ?_
  refine rL_law_298s ?_
  refine rL_law_299 ?_
  refine rL_law_300 ?_
  refine rL_law_301 ?_
  refine rL_law_302 hv2 ?_
  refine rL_law_303 ⟨by omega, by omega⟩ (by repeat first | assumption | exact zup_eq | refine (zup_ne (by first | decide | omega)).trans ?_) ?_
  refine hm f1 _ _ hM1 (fun f2 hM2 e2 => ?_)
  have hC2 := CP_lo hC1 e2
  refine rL_law_306 (fun _ => ?_) (fun hbb => absurd rfl hbb)
  exact k f2 n1 l1 o1 s1 p1 hI1 hC2 hM2
theorem lw_c5 (hv : ∀ k, 0 < k → k < 8 → vp_in (x + nI k) L) (hkc : kc ≤ 600000) (hks : ks ≤ 7302250) (hI : Inv n l o s p) (hC : CP f n l o s p) (hM : MP f n l o s p) (k : ∀ f' n' l' o' s' p', Inv n' l' o' s' p' → CP f' n' l' o' s' p' → MP f' n' l' o' s' p' → Zv (some (L, xs)) 125 878 [some zsc, some (zr 0), some (zr 37), some (zi x)] [] 45 f' kc ks P) : Zv (some (L, xs)) 125 311 [some zsc, some (zr 0), some (zr 37), some (zi x)] [] 45 f kc ks P := by
  have hv1 : vp_in (x + 1) L := hv 1 (by decide) (by decide)
  have hv2 : vp_in (x + 2) L := hv 2 (by decide) (by decide)
  have h0 := hC.1.1
  first | refine rL_law_311 ?_ | refine rL_law_311n ?_
  refine rL_law_312s ?_
  refine rL_law_313 ?_
  refine rL_law_314 ?_
  refine rL_law_315 ?_
  refine rL_law_316 hv1 ?_
  refine rL_law_317s ?_
  refine rL_law_318 ?_
  refine rL_law_319 ?_
  refine rL_law_320 ?_
  refine rL_law_321 hv2 ?_
  refine rL_law_322 ⟨by omega, by omega⟩ (by repeat first | assumption | exact zup_eq | refine (zup_ne (by first | decide | omega)).trans ?_) ?_
  obtain ⟨v, n1, l1, o1, s1, p1, hI1, hc, hm⟩ := pr_alike hI (xs (x + 1).toNatClampNeg) (xs (x + 2).toNatClampNeg)
  refine hc f _ _ hC (fun f1 hC1 e1 => ?_)
  have hM1 := MP_hi hM e1
  have h37 := hM1.1
  first | refine rL_law_325 ?_ | refine rL_law_325n ?_
  refine rL_law_326s ?_
  refine rL_law_327 ?_
  refine rL_law_328 ?_
  refine rL_law_329 ?_
  refine rL_law_330 hv1 ?_
  refine rL_law_331s ?_
  refine rL_law_332 ?_
  refine rL_law_333 ?_
  refine rL_law_334 ?_
  refine rL_law_335 hv2 ?_
  refine rL_law_336 ⟨by omega, by omega⟩ (by repeat first | assumption | exact zup_eq | refine (zup_ne (by first | decide | omega)).trans ?_) ?_
  refine hm f1 _ _ hM1 (fun f2 hM2 e2 => ?_)
  have hC2 := CP_lo hC1 e2
  refine rL_law_339 (fun _ => ?_) (fun hbb => absurd rfl hbb)
  exact k f2 n1 l1 o1 s1 p1 hI1 hC2 hM2
theorem lw_c6 (hv : ∀ k, 0 < k → k < 8 → vp_in (x + nI k) L) (hkc : kc ≤ 600000) (hks : ks ≤ 7302250) (hI : Inv n l o s p) (hC : CP f n l o s p) (hM : MP f n l o s p) (k : ∀ f' n' l' o' s' p', Inv n' l' o' s' p' → CP f' n' l' o' s' p' → MP f' n' l' o' s' p' → Zv (some (L, xs)) 125 878 [some zsc, some (zr 0), some (zr 37), some (zi x)] [] 45 f' kc ks P) : Zv (some (L, xs)) 125 344 [some zsc, some (zr 0), some (zr 37), some (zi x)] [] 45 f kc ks P := by
  have hv1 : vp_in (x + 1) L := hv 1 (by decide) (by decide)
  have hv2 : vp_in (x + 2) L := hv 2 (by decide) (by decide)
  have hv3 : vp_in (x + 3) L := hv 3 (by decide) (by decide)
  have hv4 : vp_in (x + 4) L := hv 4 (by decide) (by decide)
  have hv5 : vp_in (x + 5) L := hv 5 (by decide) (by decide)
  have hv6 : vp_in (x + 6) L := hv 6 (by decide) (by decide)
  have h0 := hC.1.1
  first | refine rL_law_344 ?_ | refine rL_law_344n ?_
  refine rL_law_345s ?_
  refine rL_law_346 ?_
  refine rL_law_347 ?_
  refine rL_law_348 ?_
  refine rL_law_349 hv1 ?_
  refine rL_law_350s ?_
  refine rL_law_351 ?_
  refine rL_law_352 ?_
  refine rL_law_353 ?_
  refine rL_law_354 hv2 ?_
  refine rL_law_355s ?_
  refine rL_law_356 ?_
  refine rL_law_357 ?_
  refine rL_law_358 ?_
  refine rL_law_359 hv3 ?_
  refine rL_law_360s ?_
  refine rL_law_361 ?_
  refine rL_law_362 ?_
  refine rL_law_363 ?_
  refine rL_law_364 hv4 ?_
  refine rL_law_365s ?_
  refine rL_law_366 ?_
  refine rL_law_367 ?_
  refine rL_law_368 ?_
  refine rL_law_369 hv5 ?_
  refine rL_law_370s ?_
  refine rL_law_371 ?_
  refine rL_law_372 ?_
  refine rL_law_374 ?_
  refine rL_law_375 hv6 ?_
  refine rL_law_376 ⟨by omega, by omega⟩ (by repeat first | assumption | exact zup_eq | refine (zup_ne (by first | decide | omega)).trans ?_) ?_
  obtain ⟨v, n1, l1, o1, s1, p1, hI1, hc, hm⟩ := pr_setting hI (xs (x + 1).toNatClampNeg) (xs (x + 2).toNatClampNeg) (xs (x + 3).toNatClampNeg) (xs (x + 4).toNatClampNeg) (xs (x + 5).toNatClampNeg) (xs (x + 6).toNatClampNeg)
  refine hc f _ _ hC (fun f1 hC1 e1 => ?_)
  have hM1 := MP_hi hM e1
  have h37 := hM1.1
  first | refine rL_law_379 ?_ | refine rL_law_379n ?_
  refine rL_law_380s ?_
  refine rL_law_381 ?_
  refine rL_law_382 ?_
  refine rL_law_383 ?_
  refine rL_law_384 hv1 ?_
  refine rL_law_385s ?_
  refine rL_law_386 ?_
  refine rL_law_387 ?_
  refine rL_law_388 ?_
  refine rL_law_389 hv2 ?_
  refine rL_law_390s ?_
  refine rL_law_391 ?_
  refine rL_law_392 ?_
  refine rL_law_393 ?_
  refine rL_law_394 hv3 ?_
  refine rL_law_395s ?_
  refine rL_law_396 ?_
  refine rL_law_397 ?_
  refine rL_law_398 ?_
  refine rL_law_399 hv4 ?_
  refine rL_law_400s ?_
  refine rL_law_401 ?_
  refine rL_law_402 ?_
  refine rL_law_403 ?_
  refine rL_law_404 hv5 ?_
  refine rL_law_405s ?_
  refine rL_law_406 ?_
  refine rL_law_407 ?_
  refine rL_law_409 ?_
  refine rL_law_410 hv6 ?_
  refine rL_law_411 ⟨by omega, by omega⟩ (by repeat first | assumption | exact zup_eq | refine (zup_ne (by first | decide | omega)).trans ?_) ?_
  refine hm f1 _ _ hM1 (fun f2 hM2 e2 => ?_)
  have hC2 := CP_lo hC1 e2
  refine rL_law_414 (fun _ => ?_) (fun hbb => absurd rfl hbb)
  exact k f2 n1 l1 o1 s1 p1 hI1 hC2 hM2
theorem lw_c7 (hv : ∀ k, 0 < k → k < 8 → vp_in (x + nI k) L) (hkc : kc ≤ 600000) (hks : ks ≤ 7302250) (hI : Inv n l o s p) (hC : CP f n l o s p) (hM : MP f n l o s p) (k : ∀ f' n' l' o' s' p', Inv n' l' o' s' p' → CP f' n' l' o' s' p' → MP f' n' l' o' s' p' → Zv (some (L, xs)) 125 878 [some zsc, some (zr 0), some (zr 37), some (zi x)] [] 45 f' kc ks P) : Zv (some (L, xs)) 125 419 [some zsc, some (zr 0), some (zr 37), some (zi x)] [] 45 f kc ks P := by
  have hv1 : vp_in (x + 1) L := hv 1 (by decide) (by decide)
  have h0 := hC.1.1
  first | refine rL_law_419 ?_ | refine rL_law_419n ?_
  refine rL_law_420s ?_
  refine rL_law_421 ?_
  refine rL_law_422 ?_
  refine rL_law_423 ?_
  refine rL_law_424 hv1 ?_
  refine rL_law_425 ⟨by omega, by omega⟩ (by repeat first | assumption | exact zup_eq | refine (zup_ne (by first | decide | omega)).trans ?_) ?_
  obtain ⟨v, n1, l1, o1, s1, p1, hI1, hc, hm⟩ := pr_told hI (xs (x + 1).toNatClampNeg)
  refine hc f _ _ hC (fun f1 hC1 e1 => ?_)
  have hM1 := MP_hi hM e1
  have h37 := hM1.1
  first | refine rL_law_428 ?_ | refine rL_law_428n ?_
  refine rL_law_429s ?_
  refine rL_law_430 ?_
  refine rL_law_431 ?_
  refine rL_law_432 ?_
  refine rL_law_433 hv1 ?_
  refine rL_law_434 ⟨by omega, by omega⟩ (by repeat first | assumption | exact zup_eq | refine (zup_ne (by first | decide | omega)).trans ?_) ?_
  refine hm f1 _ _ hM1 (fun f2 hM2 e2 => ?_)
  have hC2 := CP_lo hC1 e2
  refine rL_law_437 (fun _ => ?_) (fun hbb => absurd rfl hbb)
  exact k f2 n1 l1 o1 s1 p1 hI1 hC2 hM2
theorem lw_c8 (hv : ∀ k, 0 < k → k < 8 → vp_in (x + nI k) L) (hkc : kc ≤ 600000) (hks : ks ≤ 7302250) (hI : Inv n l o s p) (hC : CP f n l o s p) (hM : MP f n l o s p) (k : ∀ f' n' l' o' s' p', Inv n' l' o' s' p' → CP f' n' l' o' s' p' → MP f' n' l' o' s' p' → Zv (some (L, xs)) 125 878 [some zsc, some (zr 0), some (zr 37), some (zi x)] [] 45 f' kc ks P) : Zv (some (L, xs)) 125 442 [some zsc, some (zr 0), some (zr 37), some (zi x)] [] 45 f kc ks P := by
  have hv1 : vp_in (x + 1) L := hv 1 (by decide) (by decide)
  have hv2 : vp_in (x + 2) L := hv 2 (by decide) (by decide)
  have h0 := hC.1.1
  first | refine rL_law_442 ?_ | refine rL_law_442n ?_
  refine rL_law_443s ?_
  refine rL_law_444 ?_
  refine rL_law_445 ?_
  refine rL_law_446 ?_
  refine rL_law_447 hv1 ?_
  refine rL_law_448s ?_
  refine rL_law_449 ?_
  refine rL_law_450 ?_
  refine rL_law_451 ?_
  refine rL_law_452 hv2 ?_
  refine rL_law_453 ⟨by omega, by omega⟩ (by repeat first | assumption | exact zup_eq | refine (zup_ne (by first | decide | omega)).trans ?_) ?_
  obtain ⟨v, n1, l1, o1, s1, p1, hI1, hc, hm⟩ := pr_slip hI (xs (x + 1).toNatClampNeg) (xs (x + 2).toNatClampNeg)
  refine hc f _ _ hC (fun f1 hC1 e1 => ?_)
  have hM1 := MP_hi hM e1
  have h37 := hM1.1
  first | refine rL_law_456 ?_ | refine rL_law_456n ?_
  refine rL_law_457s ?_
  refine rL_law_458 ?_
  refine rL_law_459 ?_
  refine rL_law_460 ?_
  refine rL_law_461 hv1 ?_
  refine rL_law_462s ?_
  refine rL_law_463 ?_
  refine rL_law_464 ?_
  refine rL_law_465 ?_
  refine rL_law_466 hv2 ?_
  refine rL_law_467 ⟨by omega, by omega⟩ (by repeat first | assumption | exact zup_eq | refine (zup_ne (by first | decide | omega)).trans ?_) ?_
  refine hm f1 _ _ hM1 (fun f2 hM2 e2 => ?_)
  have hC2 := CP_lo hC1 e2
  refine rL_law_470 (fun _ => ?_) (fun hbb => absurd rfl hbb)
  exact k f2 n1 l1 o1 s1 p1 hI1 hC2 hM2
theorem lw_c9 (hv : ∀ k, 0 < k → k < 8 → vp_in (x + nI k) L) (hkc : kc ≤ 600000) (hks : ks ≤ 7302250) (hI : Inv n l o s p) (hC : CP f n l o s p) (hM : MP f n l o s p) (k : ∀ f' n' l' o' s' p', Inv n' l' o' s' p' → CP f' n' l' o' s' p' → MP f' n' l' o' s' p' → Zv (some (L, xs)) 125 878 [some zsc, some (zr 0), some (zr 37), some (zi x)] [] 45 f' kc ks P) : Zv (some (L, xs)) 125 475 [some zsc, some (zr 0), some (zr 37), some (zi x)] [] 45 f kc ks P := by
  have hv1 : vp_in (x + 1) L := hv 1 (by decide) (by decide)
  have hv2 : vp_in (x + 2) L := hv 2 (by decide) (by decide)
  have h0 := hC.1.1
  first | refine rL_law_475 ?_ | refine rL_law_475n ?_
  refine rL_law_476s ?_
  refine rL_law_477 ?_
  refine rL_law_478 ?_
  refine rL_law_479 ?_
  refine rL_law_480 hv1 ?_
  refine rL_law_481s ?_
  refine rL_law_482 ?_
  refine rL_law_483 ?_
  refine rL_law_484 ?_
  refine rL_law_485 hv2 ?_
  refine rL_law_486 ⟨by omega, by omega⟩ (by repeat first | assumption | exact zup_eq | refine (zup_ne (by first | decide | omega)).trans ?_) ?_
  obtain ⟨v, n1, l1, o1, s1, p1, hI1, hc, hm⟩ := pr_place hI (xs (x + 1).toNatClampNeg) (xs (x + 2).toNatClampNeg)
  refine hc f _ _ hC (fun f1 hC1 e1 => ?_)
  have hM1 := MP_hi hM e1
  have h37 := hM1.1
  first | refine rL_law_489 ?_ | refine rL_law_489n ?_
  refine rL_law_490s ?_
  refine rL_law_491 ?_
  refine rL_law_492 ?_
  refine rL_law_493 ?_
  refine rL_law_494 hv1 ?_
  refine rL_law_495s ?_
  refine rL_law_496 ?_
  refine rL_law_497 ?_
  refine rL_law_498 ?_
  refine rL_law_499 hv2 ?_
  refine rL_law_500 ⟨by omega, by omega⟩ (by repeat first | assumption | exact zup_eq | refine (zup_ne (by first | decide | omega)).trans ?_) ?_
  refine hm f1 _ _ hM1 (fun f2 hM2 e2 => ?_)
  have hC2 := CP_lo hC1 e2
  refine rL_law_503 (fun _ => ?_) (fun hbb => absurd rfl hbb)
  exact k f2 n1 l1 o1 s1 p1 hI1 hC2 hM2
theorem lw_c10 (hv : ∀ k, 0 < k → k < 8 → vp_in (x + nI k) L) (hkc : kc ≤ 600000) (hks : ks ≤ 7302250) (hI : Inv n l o s p) (hC : CP f n l o s p) (hM : MP f n l o s p) (k : ∀ f' n' l' o' s' p', Inv n' l' o' s' p' → CP f' n' l' o' s' p' → MP f' n' l' o' s' p' → Zv (some (L, xs)) 125 878 [some zsc, some (zr 0), some (zr 37), some (zi x)] [] 45 f' kc ks P) : Zv (some (L, xs)) 125 508 [some zsc, some (zr 0), some (zr 37), some (zi x)] [] 45 f kc ks P := by
  have h0 := hC.1.1
  first | refine rL_law_508 ?_ | refine rL_law_508n ?_
  refine rL_law_509 ⟨by omega, by omega⟩ (by repeat first | assumption | exact zup_eq | refine (zup_ne (by first | decide | omega)).trans ?_) ?_
  obtain ⟨v, n1, l1, o1, s1, p1, hI1, hc, hm⟩ := pr_closes hI 
  refine hc f _ _ hC (fun f1 hC1 e1 => ?_)
  have hM1 := MP_hi hM e1
  have h37 := hM1.1
  first | refine rL_law_512 ?_ | refine rL_law_512n ?_
  refine rL_law_513 ⟨by omega, by omega⟩ (by repeat first | assumption | exact zup_eq | refine (zup_ne (by first | decide | omega)).trans ?_) ?_
  refine hm f1 _ _ hM1 (fun f2 hM2 e2 => ?_)
  have hC2 := CP_lo hC1 e2
  refine rL_law_516 (fun _ => ?_) (fun hbb => absurd rfl hbb)
  exact k f2 n1 l1 o1 s1 p1 hI1 hC2 hM2
theorem lw_c11 (hv : ∀ k, 0 < k → k < 8 → vp_in (x + nI k) L) (hkc : kc ≤ 600000) (hks : ks ≤ 7302250) (hI : Inv n l o s p) (hC : CP f n l o s p) (hM : MP f n l o s p) (k : ∀ f' n' l' o' s' p', Inv n' l' o' s' p' → CP f' n' l' o' s' p' → MP f' n' l' o' s' p' → Zv (some (L, xs)) 125 878 [some zsc, some (zr 0), some (zr 37), some (zi x)] [] 45 f' kc ks P) : Zv (some (L, xs)) 125 521 [some zsc, some (zr 0), some (zr 37), some (zi x)] [] 45 f kc ks P := by
  have hv1 : vp_in (x + 1) L := hv 1 (by decide) (by decide)
  have hv2 : vp_in (x + 2) L := hv 2 (by decide) (by decide)
  have h0 := hC.1.1
  first | refine rL_law_521 ?_ | refine rL_law_521n ?_
  refine rL_law_522s ?_
  refine rL_law_523 ?_
  refine rL_law_524 ?_
  refine rL_law_525 ?_
  refine rL_law_526 hv1 ?_
  refine rL_law_527s ?_
  refine rL_law_528 ?_
  refine rL_law_529 ?_
  refine rL_law_530 ?_
  refine rL_law_531 hv2 ?_
  refine rL_law_532 ⟨by omega, by omega⟩ (by repeat first | assumption | exact zup_eq | refine (zup_ne (by first | decide | omega)).trans ?_) ?_
  obtain ⟨v, n1, l1, o1, s1, p1, hI1, hc, hm⟩ := pr_thin hI (xs (x + 1).toNatClampNeg) (xs (x + 2).toNatClampNeg)
  refine hc f _ _ hC (fun f1 hC1 e1 => ?_)
  have hM1 := MP_hi hM e1
  have h37 := hM1.1
  first | refine rL_law_535 ?_ | refine rL_law_535n ?_
  refine rL_law_536s ?_
  refine rL_law_537 ?_
  refine rL_law_538 ?_
  refine rL_law_539 ?_
  refine rL_law_540 hv1 ?_
  refine rL_law_541s ?_
  refine rL_law_542 ?_
  refine rL_law_543 ?_
  refine rL_law_544 ?_
  refine rL_law_545 hv2 ?_
  refine rL_law_546 ⟨by omega, by omega⟩ (by repeat first | assumption | exact zup_eq | refine (zup_ne (by first | decide | omega)).trans ?_) ?_
  refine hm f1 _ _ hM1 (fun f2 hM2 e2 => ?_)
  have hC2 := CP_lo hC1 e2
  refine rL_law_549 (fun _ => ?_) (fun hbb => absurd rfl hbb)
  exact k f2 n1 l1 o1 s1 p1 hI1 hC2 hM2
theorem lw_c12 (hv : ∀ k, 0 < k → k < 8 → vp_in (x + nI k) L) (hkc : kc ≤ 600000) (hks : ks ≤ 7302250) (hI : Inv n l o s p) (hC : CP f n l o s p) (hM : MP f n l o s p) (k : ∀ f' n' l' o' s' p', Inv n' l' o' s' p' → CP f' n' l' o' s' p' → MP f' n' l' o' s' p' → Zv (some (L, xs)) 125 878 [some zsc, some (zr 0), some (zr 37), some (zi x)] [] 45 f' kc ks P) : Zv (some (L, xs)) 125 554 [some zsc, some (zr 0), some (zr 37), some (zi x)] [] 45 f kc ks P := by
  have hv1 : vp_in (x + 1) L := hv 1 (by decide) (by decide)
  have h0 := hC.1.1
  first | refine rL_law_554 ?_ | refine rL_law_554n ?_
  refine rL_law_555s ?_
  refine rL_law_556 ?_
  refine rL_law_557 ?_
  refine rL_law_558 ?_
  refine rL_law_559 hv1 ?_
  refine rL_law_560 ⟨by omega, by omega⟩ (by repeat first | assumption | exact zup_eq | refine (zup_ne (by first | decide | omega)).trans ?_) ?_
  obtain ⟨v, n1, l1, o1, s1, p1, hI1, hc, hm⟩ := pr_wall hI (xs (x + 1).toNatClampNeg)
  refine hc f _ _ hC (fun f1 hC1 e1 => ?_)
  have hM1 := MP_hi hM e1
  have h37 := hM1.1
  first | refine rL_law_563 ?_ | refine rL_law_563n ?_
  refine rL_law_564s ?_
  refine rL_law_565 ?_
  refine rL_law_566 ?_
  refine rL_law_567 ?_
  refine rL_law_568 hv1 ?_
  refine rL_law_569 ⟨by omega, by omega⟩ (by repeat first | assumption | exact zup_eq | refine (zup_ne (by first | decide | omega)).trans ?_) ?_
  refine hm f1 _ _ hM1 (fun f2 hM2 e2 => ?_)
  have hC2 := CP_lo hC1 e2
  refine rL_law_572 (fun _ => ?_) (fun hbb => absurd rfl hbb)
  exact k f2 n1 l1 o1 s1 p1 hI1 hC2 hM2
theorem lw_c13 (hv : ∀ k, 0 < k → k < 8 → vp_in (x + nI k) L) (hkc : kc ≤ 600000) (hks : ks ≤ 7302250) (hI : Inv n l o s p) (hC : CP f n l o s p) (hM : MP f n l o s p) (k : ∀ f' n' l' o' s' p', Inv n' l' o' s' p' → CP f' n' l' o' s' p' → MP f' n' l' o' s' p' → Zv (some (L, xs)) 125 878 [some zsc, some (zr 0), some (zr 37), some (zi x)] [] 45 f' kc ks P) : Zv (some (L, xs)) 125 577 [some zsc, some (zr 0), some (zr 37), some (zi x)] [] 45 f kc ks P := by
  have hv1 : vp_in (x + 1) L := hv 1 (by decide) (by decide)
  have hv2 : vp_in (x + 2) L := hv 2 (by decide) (by decide)
  have hv3 : vp_in (x + 3) L := hv 3 (by decide) (by decide)
  have hv4 : vp_in (x + 4) L := hv 4 (by decide) (by decide)
  have h0 := hC.1.1
  first | refine rL_law_577 ?_ | refine rL_law_577n ?_
  refine rL_law_578s ?_
  refine rL_law_579 ?_
  refine rL_law_580 ?_
  refine rL_law_581 ?_
  refine rL_law_582 hv1 ?_
  refine rL_law_583s ?_
  refine rL_law_584 ?_
  refine rL_law_585 ?_
  refine rL_law_586 ?_
  refine rL_law_587 hv2 ?_
  refine rL_law_588s ?_
  refine rL_law_589 ?_
  refine rL_law_590 ?_
  refine rL_law_591 ?_
  refine rL_law_592 hv3 ?_
  refine rL_law_593s ?_
  refine rL_law_594 ?_
  refine rL_law_595 ?_
  refine rL_law_596 ?_
  refine rL_law_597 hv4 ?_
  refine rL_law_598 ⟨by omega, by omega⟩ (by repeat first | assumption | exact zup_eq | refine (zup_ne (by first | decide | omega)).trans ?_) ?_
  obtain ⟨v, n1, l1, o1, s1, p1, hI1, hc, hm⟩ := pr_meets hI (xs (x + 1).toNatClampNeg) (xs (x + 2).toNatClampNeg) (xs (x + 3).toNatClampNeg) (xs (x + 4).toNatClampNeg)
  refine hc f _ _ hC (fun f1 hC1 e1 => ?_)
  have hM1 := MP_hi hM e1
  have h37 := hM1.1
  first | refine rL_law_601 ?_ | refine rL_law_601n ?_
  refine rL_law_602s ?_
  refine rL_law_603 ?_
  refine rL_law_604 ?_
  refine rL_law_605 ?_
  refine rL_law_606 hv1 ?_
  refine rL_law_607s ?_
  refine rL_law_608 ?_
  refine rL_law_609 ?_
  refine rL_law_610 ?_
  refine rL_law_611 hv2 ?_
  refine rL_law_612s ?_
  refine rL_law_613 ?_
  refine rL_law_614 ?_
  refine rL_law_615 ?_
  refine rL_law_616 hv3 ?_
  refine rL_law_617s ?_
  refine rL_law_618 ?_
  refine rL_law_619 ?_
  refine rL_law_620 ?_
  refine rL_law_621 hv4 ?_
  refine rL_law_622 ⟨by omega, by omega⟩ (by repeat first | assumption | exact zup_eq | refine (zup_ne (by first | decide | omega)).trans ?_) ?_
  refine hm f1 _ _ hM1 (fun f2 hM2 e2 => ?_)
  have hC2 := CP_lo hC1 e2
  refine rL_law_625 (fun _ => ?_) (fun hbb => absurd rfl hbb)
  exact k f2 n1 l1 o1 s1 p1 hI1 hC2 hM2
theorem lw_c14 (hv : ∀ k, 0 < k → k < 8 → vp_in (x + nI k) L) (hkc : kc ≤ 600000) (hks : ks ≤ 7302250) (hI : Inv n l o s p) (hC : CP f n l o s p) (hM : MP f n l o s p) (k : ∀ f' n' l' o' s' p', Inv n' l' o' s' p' → CP f' n' l' o' s' p' → MP f' n' l' o' s' p' → Zv (some (L, xs)) 125 878 [some zsc, some (zr 0), some (zr 37), some (zi x)] [] 45 f' kc ks P) : Zv (some (L, xs)) 125 630 [some zsc, some (zr 0), some (zr 37), some (zi x)] [] 45 f kc ks P := by
  have hv1 : vp_in (x + 1) L := hv 1 (by decide) (by decide)
  have hv2 : vp_in (x + 2) L := hv 2 (by decide) (by decide)
  have hv3 : vp_in (x + 3) L := hv 3 (by decide) (by decide)
  have hv4 : vp_in (x + 4) L := hv 4 (by decide) (by decide)
  have hv5 : vp_in (x + 5) L := hv 5 (by decide) (by decide)
  have hv6 : vp_in (x + 6) L := hv 6 (by decide) (by decide)
  have hv7 : vp_in (x + 7) L := hv 7 (by decide) (by decide)
  have h0 := hC.1.1
  first | refine rL_law_630 ?_ | refine rL_law_630n ?_
  refine rL_law_631s ?_
  refine rL_law_632 ?_
  refine rL_law_633 ?_
  refine rL_law_634 ?_
  refine rL_law_635 hv1 ?_
  refine rL_law_636s ?_
  refine rL_law_637 ?_
  refine rL_law_638 ?_
  refine rL_law_639 ?_
  refine rL_law_640 hv2 ?_
  refine rL_law_641s ?_
  refine rL_law_642 ?_
  refine rL_law_643 ?_
  refine rL_law_644 ?_
  refine rL_law_645 hv3 ?_
  refine rL_law_646s ?_
  refine rL_law_647 ?_
  refine rL_law_648 ?_
  refine rL_law_649 ?_
  refine rL_law_650 hv4 ?_
  refine rL_law_651s ?_
  refine rL_law_652 ?_
  refine rL_law_653 ?_
  refine rL_law_654 ?_
  refine rL_law_655 hv5 ?_
  refine rL_law_656s ?_
  refine rL_law_657 ?_
  refine rL_law_658 ?_
  refine rL_law_660 ?_
  refine rL_law_661 hv6 ?_
  refine rL_law_662s ?_
  refine rL_law_663 ?_
  refine rL_law_664 ?_
  refine rL_law_666 ?_
  refine rL_law_667 hv7 ?_
  refine rL_law_668 ⟨by omega, by omega⟩ (by repeat first | assumption | exact zup_eq | refine (zup_ne (by first | decide | omega)).trans ?_) ?_
  obtain ⟨v, n1, l1, o1, s1, p1, hI1, hc, hm⟩ := pr_overlaid hI (xs (x + 1).toNatClampNeg) (xs (x + 2).toNatClampNeg) (xs (x + 3).toNatClampNeg) (xs (x + 4).toNatClampNeg) (xs (x + 5).toNatClampNeg) (xs (x + 6).toNatClampNeg) (xs (x + 7).toNatClampNeg)
  refine hc f _ _ hC (fun f1 hC1 e1 => ?_)
  have hM1 := MP_hi hM e1
  have h37 := hM1.1
  first | refine rL_law_671 ?_ | refine rL_law_671n ?_
  refine rL_law_672s ?_
  refine rL_law_673 ?_
  refine rL_law_674 ?_
  refine rL_law_675 ?_
  refine rL_law_676 hv1 ?_
  refine rL_law_677s ?_
  refine rL_law_678 ?_
  refine rL_law_679 ?_
  refine rL_law_680 ?_
  refine rL_law_681 hv2 ?_
  refine rL_law_682s ?_
  refine rL_law_683 ?_
  refine rL_law_684 ?_
  refine rL_law_685 ?_
  refine rL_law_686 hv3 ?_
  refine rL_law_687s ?_
  refine rL_law_688 ?_
  refine rL_law_689 ?_
  refine rL_law_690 ?_
  refine rL_law_691 hv4 ?_
  refine rL_law_692s ?_
  refine rL_law_693 ?_
  refine rL_law_694 ?_
  refine rL_law_695 ?_
  refine rL_law_696 hv5 ?_
  refine rL_law_697s ?_
  refine rL_law_698 ?_
  refine rL_law_699 ?_
  refine rL_law_701 ?_
  refine rL_law_702 hv6 ?_
  refine rL_law_703s ?_
  refine rL_law_704 ?_
  refine rL_law_705 ?_
  refine rL_law_707 ?_
  refine rL_law_708 hv7 ?_
  refine rL_law_709 ⟨by omega, by omega⟩ (by repeat first | assumption | exact zup_eq | refine (zup_ne (by first | decide | omega)).trans ?_) ?_
  refine hm f1 _ _ hM1 (fun f2 hM2 e2 => ?_)
  have hC2 := CP_lo hC1 e2
  refine rL_law_712 (fun _ => ?_) (fun hbb => absurd rfl hbb)
  exact k f2 n1 l1 o1 s1 p1 hI1 hC2 hM2
theorem lw_c15 (hv : ∀ k, 0 < k → k < 8 → vp_in (x + nI k) L) (hkc : kc ≤ 600000) (hks : ks ≤ 7302250) (hI : Inv n l o s p) (hC : CP f n l o s p) (hM : MP f n l o s p) (k : ∀ f' n' l' o' s' p', Inv n' l' o' s' p' → CP f' n' l' o' s' p' → MP f' n' l' o' s' p' → Zv (some (L, xs)) 125 878 [some zsc, some (zr 0), some (zr 37), some (zi x)] [] 45 f' kc ks P) : Zv (some (L, xs)) 125 717 [some zsc, some (zr 0), some (zr 37), some (zi x)] [] 45 f kc ks P := by
  have hv1 : vp_in (x + 1) L := hv 1 (by decide) (by decide)
  have hv2 : vp_in (x + 2) L := hv 2 (by decide) (by decide)
  have hv3 : vp_in (x + 3) L := hv 3 (by decide) (by decide)
  have h0 := hC.1.1
  first | refine rL_law_717 ?_ | refine rL_law_717n ?_
  refine rL_law_718s ?_
  refine rL_law_719 ?_
  refine rL_law_720 ?_
  refine rL_law_721 ?_
  refine rL_law_722 hv1 ?_
  refine rL_law_723s ?_
  refine rL_law_724 ?_
  refine rL_law_725 ?_
  refine rL_law_726 ?_
  refine rL_law_727 hv2 ?_
  refine rL_law_728s ?_
  refine rL_law_729 ?_
  refine rL_law_730 ?_
  refine rL_law_731 ?_
  refine rL_law_732 hv3 ?_
  refine rL_law_733 ⟨by omega, by omega⟩ (by repeat first | assumption | exact zup_eq | refine (zup_ne (by first | decide | omega)).trans ?_) ?_
  obtain ⟨v, n1, l1, o1, s1, p1, hI1, hc, hm⟩ := pr_see hI (xs (x + 1).toNatClampNeg) (xs (x + 2).toNatClampNeg) (xs (x + 3).toNatClampNeg)
  refine hc f _ _ hC (fun f1 hC1 e1 => ?_)
  have hM1 := MP_hi hM e1
  have h37 := hM1.1
  first | refine rL_law_736 ?_ | refine rL_law_736n ?_
  refine rL_law_737s ?_
  refine rL_law_738 ?_
  refine rL_law_739 ?_
  refine rL_law_740 ?_
  refine rL_law_741 hv1 ?_
  refine rL_law_742s ?_
  refine rL_law_743 ?_
  refine rL_law_744 ?_
  refine rL_law_745 ?_
  refine rL_law_746 hv2 ?_
  refine rL_law_747s ?_
  refine rL_law_748 ?_
  refine rL_law_749 ?_
  refine rL_law_750 ?_
  refine rL_law_751 hv3 ?_
  refine rL_law_752 ⟨by omega, by omega⟩ (by repeat first | assumption | exact zup_eq | refine (zup_ne (by first | decide | omega)).trans ?_) ?_
  refine hm f1 _ _ hM1 (fun f2 hM2 e2 => ?_)
  have hC2 := CP_lo hC1 e2
  refine rL_law_755 (fun _ => ?_) (fun hbb => absurd rfl hbb)
  exact k f2 n1 l1 o1 s1 p1 hI1 hC2 hM2
theorem lw_c16 (hv : ∀ k, 0 < k → k < 8 → vp_in (x + nI k) L) (hkc : kc ≤ 600000) (hks : ks ≤ 7302250) (hI : Inv n l o s p) (hC : CP f n l o s p) (hM : MP f n l o s p) (k : ∀ f' n' l' o' s' p', Inv n' l' o' s' p' → CP f' n' l' o' s' p' → MP f' n' l' o' s' p' → Zv (some (L, xs)) 125 878 [some zsc, some (zr 0), some (zr 37), some (zi x)] [] 45 f' kc ks P) : Zv (some (L, xs)) 125 760 [some zsc, some (zr 0), some (zr 37), some (zi x)] [] 45 f kc ks P := by
  have hv1 : vp_in (x + 1) L := hv 1 (by decide) (by decide)
  have h0 := hC.1.1
  first | refine rL_law_760 ?_ | refine rL_law_760n ?_
  refine rL_law_761s ?_
  refine rL_law_762 ?_
  refine rL_law_763 ?_
  refine rL_law_764 ?_
  refine rL_law_765 hv1 ?_
  refine rL_law_766 ⟨by omega, by omega⟩ (by repeat first | assumption | exact zup_eq | refine (zup_ne (by first | decide | omega)).trans ?_) ?_
  obtain ⟨v, n1, l1, o1, s1, p1, hI1, hc, hm⟩ := pr_print hI (xs (x + 1).toNatClampNeg)
  refine hc f _ _ hC (fun f1 hC1 e1 => ?_)
  have hM1 := MP_hi hM e1
  have h37 := hM1.1
  first | refine rL_law_769 ?_ | refine rL_law_769n ?_
  refine rL_law_770s ?_
  refine rL_law_771 ?_
  refine rL_law_772 ?_
  refine rL_law_773 ?_
  refine rL_law_774 hv1 ?_
  refine rL_law_775 ⟨by omega, by omega⟩ (by repeat first | assumption | exact zup_eq | refine (zup_ne (by first | decide | omega)).trans ?_) ?_
  refine hm f1 _ _ hM1 (fun f2 hM2 e2 => ?_)
  have hC2 := CP_lo hC1 e2
  refine rL_law_778 (fun _ => ?_) (fun hbb => absurd rfl hbb)
  exact k f2 n1 l1 o1 s1 p1 hI1 hC2 hM2
theorem lw_c17 (hv : ∀ k, 0 < k → k < 8 → vp_in (x + nI k) L) (hkc : kc ≤ 600000) (hks : ks ≤ 7302250) (hI : Inv n l o s p) (hC : CP f n l o s p) (hM : MP f n l o s p) (k : ∀ f' n' l' o' s' p', Inv n' l' o' s' p' → CP f' n' l' o' s' p' → MP f' n' l' o' s' p' → Zv (some (L, xs)) 125 878 [some zsc, some (zr 0), some (zr 37), some (zi x)] [] 45 f' kc ks P) : Zv (some (L, xs)) 125 783 [some zsc, some (zr 0), some (zr 37), some (zi x)] [] 45 f kc ks P := by
  have h0 := hC.1.1
  first | refine rL_law_783 ?_ | refine rL_law_783n ?_
  refine rL_law_784 ⟨by omega, by omega⟩ (by repeat first | assumption | exact zup_eq | refine (zup_ne (by first | decide | omega)).trans ?_) ?_
  obtain ⟨v, n1, l1, o1, s1, p1, hI1, hc, hm⟩ := pr_makers hI 
  refine hc f _ _ hC (fun f1 hC1 e1 => ?_)
  have hM1 := MP_hi hM e1
  have h37 := hM1.1
  first | refine rL_law_787 ?_ | refine rL_law_787n ?_
  refine rL_law_788 ⟨by omega, by omega⟩ (by repeat first | assumption | exact zup_eq | refine (zup_ne (by first | decide | omega)).trans ?_) ?_
  refine hm f1 _ _ hM1 (fun f2 hM2 e2 => ?_)
  have hC2 := CP_lo hC1 e2
  refine rL_law_791 (fun _ => ?_) (fun hbb => absurd rfl hbb)
  exact k f2 n1 l1 o1 s1 p1 hI1 hC2 hM2
theorem lw_c18 (hv : ∀ k, 0 < k → k < 8 → vp_in (x + nI k) L) (hkc : kc ≤ 600000) (hks : ks ≤ 7302250) (hI : Inv n l o s p) (hC : CP f n l o s p) (hM : MP f n l o s p) (k : ∀ f' n' l' o' s' p', Inv n' l' o' s' p' → CP f' n' l' o' s' p' → MP f' n' l' o' s' p' → Zv (some (L, xs)) 125 878 [some zsc, some (zr 0), some (zr 37), some (zi x)] [] 45 f' kc ks P) : Zv (some (L, xs)) 125 796 [some zsc, some (zr 0), some (zr 37), some (zi x)] [] 45 f kc ks P := by
  have hv1 : vp_in (x + 1) L := hv 1 (by decide) (by decide)
  have hv2 : vp_in (x + 2) L := hv 2 (by decide) (by decide)
  have h0 := hC.1.1
  first | refine rL_law_796 ?_ | refine rL_law_796n ?_
  refine rL_law_797s ?_
  refine rL_law_798 ?_
  refine rL_law_799 ?_
  refine rL_law_800 ?_
  refine rL_law_801 hv1 ?_
  refine rL_law_802s ?_
  refine rL_law_803 ?_
  refine rL_law_804 ?_
  refine rL_law_805 ?_
  refine rL_law_806 hv2 ?_
  refine rL_law_807 ⟨by omega, by omega⟩ (by repeat first | assumption | exact zup_eq | refine (zup_ne (by first | decide | omega)).trans ?_) ?_
  obtain ⟨v, n1, l1, o1, s1, p1, hI1, hc, hm⟩ := pr_maker hI (xs (x + 1).toNatClampNeg) (xs (x + 2).toNatClampNeg)
  refine hc f _ _ hC (fun f1 hC1 e1 => ?_)
  have hM1 := MP_hi hM e1
  have h37 := hM1.1
  first | refine rL_law_810 ?_ | refine rL_law_810n ?_
  refine rL_law_811s ?_
  refine rL_law_812 ?_
  refine rL_law_813 ?_
  refine rL_law_814 ?_
  refine rL_law_815 hv1 ?_
  refine rL_law_816s ?_
  refine rL_law_817 ?_
  refine rL_law_818 ?_
  refine rL_law_819 ?_
  refine rL_law_820 hv2 ?_
  refine rL_law_821 ⟨by omega, by omega⟩ (by repeat first | assumption | exact zup_eq | refine (zup_ne (by first | decide | omega)).trans ?_) ?_
  refine hm f1 _ _ hM1 (fun f2 hM2 e2 => ?_)
  have hC2 := CP_lo hC1 e2
  refine rL_law_824 (fun _ => ?_) (fun hbb => absurd rfl hbb)
  exact k f2 n1 l1 o1 s1 p1 hI1 hC2 hM2
theorem lw_c19 (hv : ∀ k, 0 < k → k < 8 → vp_in (x + nI k) L) (hkc : kc ≤ 600000) (hks : ks ≤ 7302250) (hI : Inv n l o s p) (hC : CP f n l o s p) (hM : MP f n l o s p) (k : ∀ f' n' l' o' s' p', Inv n' l' o' s' p' → CP f' n' l' o' s' p' → MP f' n' l' o' s' p' → Zv (some (L, xs)) 125 878 [some zsc, some (zr 0), some (zr 37), some (zi x)] [] 45 f' kc ks P) : Zv (some (L, xs)) 125 829 [some zsc, some (zr 0), some (zr 37), some (zi x)] [] 45 f kc ks P := by
  have h0 := hC.1.1
  first | refine rL_law_829 ?_ | refine rL_law_829n ?_
  refine rL_law_830 ⟨by omega, by omega⟩ (by repeat first | assumption | exact zup_eq | refine (zup_ne (by first | decide | omega)).trans ?_) ?_
  obtain ⟨v, n1, l1, o1, s1, p1, hI1, hc, hm⟩ := pr_off hI 
  refine hc f _ _ hC (fun f1 hC1 e1 => ?_)
  have hM1 := MP_hi hM e1
  have h37 := hM1.1
  first | refine rL_law_833 ?_ | refine rL_law_833n ?_
  refine rL_law_834 ⟨by omega, by omega⟩ (by repeat first | assumption | exact zup_eq | refine (zup_ne (by first | decide | omega)).trans ?_) ?_
  refine hm f1 _ _ hM1 (fun f2 hM2 e2 => ?_)
  have hC2 := CP_lo hC1 e2
  refine rL_law_837 (fun _ => ?_) (fun hbb => absurd rfl hbb)
  exact k f2 n1 l1 o1 s1 p1 hI1 hC2 hM2
theorem lw_c20 (hv : ∀ k, 0 < k → k < 8 → vp_in (x + nI k) L) (hkc : kc ≤ 600000) (hks : ks ≤ 7302250) (hI : Inv n l o s p) (hC : CP f n l o s p) (hM : MP f n l o s p) (k : ∀ f' n' l' o' s' p', Inv n' l' o' s' p' → CP f' n' l' o' s' p' → MP f' n' l' o' s' p' → Zv (some (L, xs)) 125 878 [some zsc, some (zr 0), some (zr 37), some (zi x)] [] 45 f' kc ks P) : Zv (some (L, xs)) 125 842 [some zsc, some (zr 0), some (zr 37), some (zi x)] [] 45 f kc ks P := by
  have h0 := hC.1.1
  first | refine rL_law_842 ?_ | refine rL_law_842n ?_
  refine rL_law_843 ⟨by omega, by omega⟩ (by repeat first | assumption | exact zup_eq | refine (zup_ne (by first | decide | omega)).trans ?_) ?_
  obtain ⟨v, n1, l1, o1, s1, p1, hI1, hc, hm⟩ := pr_shown hI 
  refine hc f _ _ hC (fun f1 hC1 e1 => ?_)
  have hM1 := MP_hi hM e1
  have h37 := hM1.1
  first | refine rL_law_846 ?_ | refine rL_law_846n ?_
  refine rL_law_847 ⟨by omega, by omega⟩ (by repeat first | assumption | exact zup_eq | refine (zup_ne (by first | decide | omega)).trans ?_) ?_
  refine hm f1 _ _ hM1 (fun f2 hM2 e2 => ?_)
  have hC2 := CP_lo hC1 e2
  refine rL_law_850 (fun _ => ?_) (fun hbb => absurd rfl hbb)
  exact k f2 n1 l1 o1 s1 p1 hI1 hC2 hM2
theorem lw_c21 (hv : ∀ k, 0 < k → k < 8 → vp_in (x + nI k) L) (hkc : kc ≤ 600000) (hks : ks ≤ 7302250) (hI : Inv n l o s p) (hC : CP f n l o s p) (hM : MP f n l o s p) (k : ∀ f' n' l' o' s' p', Inv n' l' o' s' p' → CP f' n' l' o' s' p' → MP f' n' l' o' s' p' → Zv (some (L, xs)) 125 878 [some zsc, some (zr 0), some (zr 37), some (zi x)] [] 45 f' kc ks P) : Zv (some (L, xs)) 125 855 [some zsc, some (zr 0), some (zr 37), some (zi x)] [] 45 f kc ks P := by
  have hv1 : vp_in (x + 1) L := hv 1 (by decide) (by decide)
  have h0 := hC.1.1
  first | refine rL_law_855 ?_ | refine rL_law_855n ?_
  refine rL_law_856s ?_
  refine rL_law_857 ?_
  refine rL_law_858 ?_
  refine rL_law_859 ?_
  refine rL_law_860 hv1 ?_
  refine rL_law_861 ⟨by omega, by omega⟩ (by repeat first | assumption | exact zup_eq | refine (zup_ne (by first | decide | omega)).trans ?_) ?_
  obtain ⟨v, n1, l1, o1, s1, p1, hI1, hc, hm⟩ := pr_count hI (xs (x + 1).toNatClampNeg)
  refine hc f _ _ hC (fun f1 hC1 e1 => ?_)
  have hM1 := MP_hi hM e1
  have h37 := hM1.1
  first | refine rL_law_864 ?_ | refine rL_law_864n ?_
  refine rL_law_865s ?_
  refine rL_law_866 ?_
  refine rL_law_867 ?_
  refine rL_law_868 ?_
  refine rL_law_869 hv1 ?_
  refine rL_law_870 ⟨by omega, by omega⟩ (by repeat first | assumption | exact zup_eq | refine (zup_ne (by first | decide | omega)).trans ?_) ?_
  refine hm f1 _ _ hM1 (fun f2 hM2 e2 => ?_)
  have hC2 := CP_lo hC1 e2
  refine rL_law_873 (fun _ => ?_) (fun hbb => absurd rfl hbb)
  exact k f2 n1 l1 o1 s1 p1 hI1 hC2 hM2
end LAW
theorem lw_loop {L : Nat} {xs : Nat → Int32} (hL : L ≤ 4096) {P : Option ZVal → Nat → ZH → Prop} (hP : ∀ sz f, P (some (zi 1)) sz f) : ∀ (d i : Nat) (n : Nat → Nat) (l : Nat → Nat → Int32) (o s p : Nat → Int32) (f : ZH) (kc ks : Nat), i + 8 * d ≥ L → i ≤ L → kc ≤ 600000 → ks ≤ 7302250 → Inv n l o s p → CP f n l o s p → MP f n l o s p → Zv (some (L, xs)) 125 18 [some zsc, some (zr 0), some (zr 37), some (zi (nI i))] [] 45 f kc ks P := by
  intro d
  induction d with
  | zero =>
    intro i n l o s p f kc ks hi hiL hkc hks hI hC hM
    have h8 : (nI L - 8).toInt = L - 8 := by
      rw [Jvm.Kit.i32_sub (by rw [nI_toInt (by omega), show (8 : Int32).toInt = 8 from rfl]; omega) (by rw [nI_toInt (by omega), show (8 : Int32).toInt = 8 from rfl]; omega), nI_toInt (by omega), show (8 : Int32).toInt = 8 from rfl]
    refine rL_law_18 ?_
    refine rL_law_19s ?_
    refine rL_law_20 ?_
    refine rL_law_21 ?_
    refine rL_law_23 ?_
    refine rL_law_24 (fun _ => ?_) (fun hbb => absurd (Int32.lt_iff_toInt_lt.mpr (by rw [h8, nI_toInt (by omega)]; omega)) hbb)
    refine rL_law_884 ?_
    first | refine rL_law_885b ?_ | refine rL_law_885 (Or.inl rfl) ?_ | refine rL_law_885 (Or.inr rfl) ?_
    exact hP _ _
  | succ d ih =>
    intro i n l o s p f kc ks hi hiL hkc hks hI hC hM
    have h8 : (nI L - 8).toInt = L - 8 := by
      rw [Jvm.Kit.i32_sub (by rw [nI_toInt (by omega), show (8 : Int32).toInt = 8 from rfl]; omega) (by rw [nI_toInt (by omega), show (8 : Int32).toInt = 8 from rfl]; omega), nI_toInt (by omega), show (8 : Int32).toInt = 8 from rfl]
    refine rL_law_18 ?_
    refine rL_law_19s ?_
    refine rL_law_20 ?_
    refine rL_law_21 ?_
    refine rL_law_23 ?_
    by_cases hlt : L < i + 8
    · refine rL_law_24 (fun _ => ?_) (fun hbb => absurd (Int32.lt_iff_toInt_lt.mpr (by rw [h8, nI_toInt (by omega)]; omega)) hbb)
      refine rL_law_884 ?_
      first | refine rL_law_885b ?_ | refine rL_law_885 (Or.inl rfl) ?_ | refine rL_law_885 (Or.inr rfl) ?_
      exact hP _ _
    · refine rL_law_24 (fun hbb => absurd hbb (Int32.not_lt.mpr (Int32.le_iff_toInt_le.mpr (by rw [h8, nI_toInt (by omega)]; omega)))) (fun _ => ?_)
      have hv0 : vp_in (nI i) L := vp_in_nI (by omega) (by omega)
      have hv : ∀ k, 0 < k → k < 8 → vp_in (nI i + nI k) L := fun k _ hk => vp_at hk hL (by omega)
      have next : ∀ f' n' l' o' s' p', Inv n' l' o' s' p' → CP f' n' l' o' s' p' → MP f' n' l' o' s' p' → Zv (some (L, xs)) 125 878 [some zsc, some (zr 0), some (zr 37), some (zi (nI i))] [] 45 f' kc ks P := by
        intro f' n' l' o' s' p' hI' hC' hM'
        refine rL_law_878 ?_
        refine rL_law_881 ?_
        rw [show nI i + 8 = nI (i + 8) from nI_add i 8]
        exact ih (i + 8) n' l' o' s' p' f' kc ks (by omega) (by omega) hkc hks hI' hC' hM'
      refine rL_law_27s ?_
      refine rL_law_28 ?_
      refine rL_law_29 hv0 ?_
      refine rL_law_30 ?_
      refine rL_law_32 ?_
      generalize xs (nI i).toNatClampNeg &&& 31 = y
      by_cases hy : y.toInt < 0 ∨ 21 < y.toInt
      · refine rL_law_33d hy ?_
        exact next f n l o s p hI hC hM
      · obtain ⟨q, hq, rfl⟩ := i32_lit (m := 21) hy (by decide)
        match q, hq with
        | 0, _ => exact rL_law_33c0 (lw_c0 hv hkc hks hI hC hM next)
        | 1, _ => exact rL_law_33c1 (lw_c1 hv hkc hks hI hC hM next)
        | 2, _ => exact rL_law_33c2 (lw_c2 hv hkc hks hI hC hM next)
        | 3, _ => exact rL_law_33c3 (lw_c3 hv hkc hks hI hC hM next)
        | 4, _ => exact rL_law_33c4 (lw_c4 hv hkc hks hI hC hM next)
        | 5, _ => exact rL_law_33c5 (lw_c5 hv hkc hks hI hC hM next)
        | 6, _ => exact rL_law_33c6 (lw_c6 hv hkc hks hI hC hM next)
        | 7, _ => exact rL_law_33c7 (lw_c7 hv hkc hks hI hC hM next)
        | 8, _ => exact rL_law_33c8 (lw_c8 hv hkc hks hI hC hM next)
        | 9, _ => exact rL_law_33c9 (lw_c9 hv hkc hks hI hC hM next)
        | 10, _ => exact rL_law_33c10 (lw_c10 hv hkc hks hI hC hM next)
        | 11, _ => exact rL_law_33c11 (lw_c11 hv hkc hks hI hC hM next)
        | 12, _ => exact rL_law_33c12 (lw_c12 hv hkc hks hI hC hM next)
        | 13, _ => exact rL_law_33c13 (lw_c13 hv hkc hks hI hC hM next)
        | 14, _ => exact rL_law_33c14 (lw_c14 hv hkc hks hI hC hM next)
        | 15, _ => exact rL_law_33c15 (lw_c15 hv hkc hks hI hC hM next)
        | 16, _ => exact rL_law_33c16 (lw_c16 hv hkc hks hI hC hM next)
        | 17, _ => exact rL_law_33c17 (lw_c17 hv hkc hks hI hC hM next)
        | 18, _ => exact rL_law_33c18 (lw_c18 hv hkc hks hI hC hM next)
        | 19, _ => exact rL_law_33c19 (lw_c19 hv hkc hks hI hC hM next)
        | 20, _ => exact rL_law_33c20 (lw_c20 hv hkc hks hI hC hM next)
        | 21, _ => exact rL_law_33c21 (lw_c21 hv hkc hks hI hC hM next)
        | q + 22, hq => exact absurd hq (by omega)
theorem lw_all {L : Nat} {xs : Nat → Int32} (hL : L ≤ 4096) : Zv (some (L, xs)) 125 0 [some zsc, none, none, none] [] 0 (fun _ => none) 0 0 (fun r _ _ => r = some (zi 1)) := by
  refine rL_law_0 ⟨by omega, by omega⟩ ?_
  refine rL_law_3 ?_
  refine rL_law_4 ⟨by omega, by omega⟩ ?_
  refine s_X5_init zup_eq (fun f1 hC1 => ?_)
  first | refine rL_law_7 ?_ | refine rL_law_7n ?_
  refine rL_law_8 ⟨by omega, by omega⟩ ?_
  refine rL_law_11 ?_
  refine rL_law_12 ⟨by omega, by omega⟩ ?_
  refine m_init zup_eq (fun f2 hM2 e2 => ?_)
  have hC2 := CP_lo (CP_lo hC1 (f' := zup f1 37 (zO 6 [zu, zu, zu, zu, zu, zu, zu])) (fun j hj => zup_ne (by omega))) e2
  first | refine rL_law_15 ?_ | refine rL_law_15n ?_
  refine rL_law_16 ?_
  refine rL_law_17 ?_
  exact lw_loop hL (fun _ _ => rfl) 512 0 _ _ _ _ _ f2 _ _ (by omega) (Nat.zero_le _) (by decide) (by decide) Inv_start hC2 hM2
