/-! ===== the law: a call of each kind ===== -/
section LW
variable {G : qGl} {y : qY} {d pc : Nat} {L : List (Nat × qV)} {st : List qV} {σ : qM} {Q : Option qV → qM → Prop} {A : qA} {a : Int}
theorem q_eqs {off : Int} {tgt : Nat} (hd : decode y.2.1 pc = .ok (.if_icmp .eq off, 3)) (ht : (pc : Int) + off = (tgt : Int)) (k : qE G y d tgt L st σ Q) : qE G y d pc L (.inl a :: .inl a :: st) σ Q :=
  fun p e R s m args below meth c H locs k' n' ls C Ws Wd S hl => lv_icmp_eq C.1 C.2.1 hd ht (fun _ => k p e R s m args below meth c H locs k' n' ls C Ws Wd S hl) (fun h => absurd rfl h)
theorem q_lcs (hd : decode y.2.1 pc = .ok (.lcmp, 1)) (k : qE G y d (pc + 1) L (.inl 0 :: st) σ Q) : qE G y d pc L (.inr (.inl a) :: .inr (.inl a) :: st) σ Q :=
  fun p e R s m args below meth c H locs k' n' ls C Ws Wd S hl => W.lcmp C.1 C.2.1 hd (by
    have he : lg_cmp (Int64.ofInt a) (Int64.ofInt a) = Int32.ofInt 0 := by
      unfold lg_cmp
      simp
    rw [he]
    exact k p e R s m args below meth c H locs k' n' ls C Ws Wd S hl)
theorem av_q {s : Int × qA} {r : Int} {A' : qA} (e : s = (r, A')) (h : AV s.2) : AV A' := by rw [e] at h; exact h
theorem sb (x : Int32) : -2147483648 ≤ x.toInt ∧ x.toInt ≤ 2147483647 := ⟨Int32.le_toInt x, by have := Int32.toInt_lt x; omega⟩
theorem l_row {i : Int} (hC : CR σ A) (hM : MR σ A) (hV : AV A) (hi : 0 ≤ i ∧ i + 6 ≤ G.2.2.2.2.1) (hL : G.2.2.2.2.1 ≤ 384) (kk : ∀ σ' A', CR σ' A' → MR σ' A' → AV A' → qE G mL_law (d + 15) 1382 [(3, vi i), (2, vr 82), (1, vr 0), (0, vr 96)] [] σ' Q) : qE G mL_law (d + 15) 204 [(3, vi i), (2, vr 82), (1, vr 0), (0, vr 96)] [] σ Q := by
  refine q_aload_n (pc := 204) dL_law_204 rfl ?_
  refine q_aload_n (pc := 205) dL_law_205 rfl ?_
  refine q_iload_n (pc := 206) dL_law_206 rfl ?_
  refine q_iconst (pc := 207) dL_law_207 ?_
  refine q_iadd (pc := 208) dL_law_208 ?_
  refine q_sald (pc := 209) dL_law_209 (by omega) (by omega) ?_
  refine q_aload_n (pc := 210) dL_law_210 rfl ?_
  refine q_iload_n (pc := 211) dL_law_211 rfl ?_
  refine q_iconst (pc := 212) dL_law_212 ?_
  refine q_iadd (pc := 213) dL_law_213 ?_
  refine q_sald (pc := 214) dL_law_214 (by omega) (by omega) ?_
  refine q_aload_n (pc := 215) dL_law_215 rfl ?_
  refine q_iload_n (pc := 216) dL_law_216 rfl ?_
  refine q_iconst (pc := 217) dL_law_217 ?_
  refine q_iadd (pc := 218) dL_law_218 ?_
  refine q_sald (pc := 219) dL_law_219 (by omega) (by omega) ?_
  refine q_V3i (pc := 220) dL_law_220 vL_13 rfl rfl (Nat.le_of_ble_eq_true rfl) (Nat.le_of_ble_eq_true rfl) (x_row hC hV (sb _) (sb _) (sb _)) (fun r1 σ1 hc1 => ?_)
  obtain ⟨A1, hs1, hF1, hC1⟩ := hc1
  refine q_aload_n (pc := 223) dL_law_223 rfl ?_
  refine q_aload_n (pc := 224) dL_law_224 rfl ?_
  refine q_iload_n (pc := 225) dL_law_225 rfl ?_
  refine q_iconst (pc := 226) dL_law_226 ?_
  refine q_iadd (pc := 227) dL_law_227 ?_
  refine q_sald (pc := 228) dL_law_228 (by omega) (by omega) ?_
  refine q_aload_n (pc := 229) dL_law_229 rfl ?_
  refine q_iload_n (pc := 230) dL_law_230 rfl ?_
  refine q_iconst (pc := 231) dL_law_231 ?_
  refine q_iadd (pc := 232) dL_law_232 ?_
  refine q_sald (pc := 233) dL_law_233 (by omega) (by omega) ?_
  refine q_aload_n (pc := 234) dL_law_234 rfl ?_
  refine q_iload_n (pc := 235) dL_law_235 rfl ?_
  refine q_iconst (pc := 236) dL_law_236 ?_
  refine q_iadd (pc := 237) dL_law_237 ?_
  refine q_sald (pc := 238) dL_law_238 (by omega) (by omega) ?_
  refine q_V3i (pc := 239) dL_law_239 vL_17 rfl rfl (Nat.le_of_ble_eq_true rfl) (Nat.le_of_ble_eq_true rfl) (m_row (hM.out hF1) hV (sb _) (sb _) (sb _)) (fun r2 σ2 hc2 => ?_)
  obtain ⟨A2, hs2, hF2, hM2⟩ := hc2
  have he := hs1.symm.trans hs2
  obtain ⟨rfl, rfl⟩ := Prod.mk.inj he
  refine q_eqs (pc := 242) (tgt := 1382) dL_law_242 (by decide) ?_
  exact kk σ2 A1 (hC1.out hF2) hM2 (av_q hs1 (av_row hV _ _ _))
theorem l_set {i : Int} (hC : CR σ A) (hM : MR σ A) (hV : AV A) (hi : 0 ≤ i ∧ i + 6 ≤ G.2.2.2.2.1) (hL : G.2.2.2.2.1 ≤ 384) (kk : ∀ σ' A', CR σ' A' → MR σ' A' → AV A' → qE G mL_law (d + 15) 1382 [(3, vi i), (2, vr 82), (1, vr 0), (0, vr 96)] [] σ' Q) : qE G mL_law (d + 15) 247 [(3, vi i), (2, vr 82), (1, vr 0), (0, vr 96)] [] σ Q := by
  refine q_aload_n (pc := 247) dL_law_247 rfl ?_
  refine q_aload_n (pc := 248) dL_law_248 rfl ?_
  refine q_iload_n (pc := 249) dL_law_249 rfl ?_
  refine q_iconst (pc := 250) dL_law_250 ?_
  refine q_iadd (pc := 251) dL_law_251 ?_
  refine q_sald (pc := 252) dL_law_252 (by omega) (by omega) ?_
  refine q_aload_n (pc := 253) dL_law_253 rfl ?_
  refine q_iload_n (pc := 254) dL_law_254 rfl ?_
  refine q_iconst (pc := 255) dL_law_255 ?_
  refine q_iadd (pc := 256) dL_law_256 ?_
  refine q_sald (pc := 257) dL_law_257 (by omega) (by omega) ?_
  refine q_aload_n (pc := 258) dL_law_258 rfl ?_
  refine q_iload_n (pc := 259) dL_law_259 rfl ?_
  refine q_iconst (pc := 260) dL_law_260 ?_
  refine q_iadd (pc := 261) dL_law_261 ?_
  refine q_sald (pc := 262) dL_law_262 (by omega) (by omega) ?_
  refine q_V3i (pc := 263) dL_law_263 vL_18 rfl rfl (Nat.le_of_ble_eq_true rfl) (Nat.le_of_ble_eq_true rfl) (x_set hC hV (sb _) (sb _)) (fun r1 σ1 hc1 => ?_)
  obtain ⟨A1, hs1, hF1, hC1⟩ := hc1
  refine q_aload_n (pc := 266) dL_law_266 rfl ?_
  refine q_aload_n (pc := 267) dL_law_267 rfl ?_
  refine q_iload_n (pc := 268) dL_law_268 rfl ?_
  refine q_iconst (pc := 269) dL_law_269 ?_
  refine q_iadd (pc := 270) dL_law_270 ?_
  refine q_sald (pc := 271) dL_law_271 (by omega) (by omega) ?_
  refine q_aload_n (pc := 272) dL_law_272 rfl ?_
  refine q_iload_n (pc := 273) dL_law_273 rfl ?_
  refine q_iconst (pc := 274) dL_law_274 ?_
  refine q_iadd (pc := 275) dL_law_275 ?_
  refine q_sald (pc := 276) dL_law_276 (by omega) (by omega) ?_
  refine q_aload_n (pc := 277) dL_law_277 rfl ?_
  refine q_iload_n (pc := 278) dL_law_278 rfl ?_
  refine q_iconst (pc := 279) dL_law_279 ?_
  refine q_iadd (pc := 280) dL_law_280 ?_
  refine q_sald (pc := 281) dL_law_281 (by omega) (by omega) ?_
  refine q_V3i (pc := 282) dL_law_282 vL_21 rfl rfl (Nat.le_of_ble_eq_true rfl) (Nat.le_of_ble_eq_true rfl) (m_set (hM.out hF1) hV (sb _) (sb _) (sb _)) (fun r2 σ2 hc2 => ?_)
  obtain ⟨A2, hs2, hF2, hM2⟩ := hc2
  have he := hs1.symm.trans hs2
  obtain ⟨rfl, rfl⟩ := Prod.mk.inj he
  refine q_eqs (pc := 285) (tgt := 1382) dL_law_285 (by decide) ?_
  exact kk σ2 A1 (hC1.out hF2) hM2 (av_q hs1 (av_set hV _ _ _ (sb _)))
theorem l_copy {i : Int} (hC : CR σ A) (hM : MR σ A) (hV : AV A) (hi : 0 ≤ i ∧ i + 6 ≤ G.2.2.2.2.1) (hL : G.2.2.2.2.1 ≤ 384) (kk : ∀ σ' A', CR σ' A' → MR σ' A' → AV A' → qE G mL_law (d + 15) 1382 [(3, vi i), (2, vr 82), (1, vr 0), (0, vr 96)] [] σ' Q) : qE G mL_law (d + 15) 290 [(3, vi i), (2, vr 82), (1, vr 0), (0, vr 96)] [] σ Q := by
  refine q_aload_n (pc := 290) dL_law_290 rfl ?_
  refine q_aload_n (pc := 291) dL_law_291 rfl ?_
  refine q_iload_n (pc := 292) dL_law_292 rfl ?_
  refine q_iconst (pc := 293) dL_law_293 ?_
  refine q_iadd (pc := 294) dL_law_294 ?_
  refine q_sald (pc := 295) dL_law_295 (by omega) (by omega) ?_
  refine q_aload_n (pc := 296) dL_law_296 rfl ?_
  refine q_iload_n (pc := 297) dL_law_297 rfl ?_
  refine q_iconst (pc := 298) dL_law_298 ?_
  refine q_iadd (pc := 299) dL_law_299 ?_
  refine q_sald (pc := 300) dL_law_300 (by omega) (by omega) ?_
  refine q_aload_n (pc := 301) dL_law_301 rfl ?_
  refine q_iload_n (pc := 302) dL_law_302 rfl ?_
  refine q_iconst (pc := 303) dL_law_303 ?_
  refine q_iadd (pc := 304) dL_law_304 ?_
  refine q_sald (pc := 305) dL_law_305 (by omega) (by omega) ?_
  refine q_aload_n (pc := 306) dL_law_306 rfl ?_
  refine q_iload_n (pc := 307) dL_law_307 rfl ?_
  refine q_iconst (pc := 308) dL_law_308 ?_
  refine q_iadd (pc := 309) dL_law_309 ?_
  refine q_sald (pc := 310) dL_law_310 (by omega) (by omega) ?_
  refine q_aload_n (pc := 311) dL_law_311 rfl ?_
  refine q_iload_n (pc := 312) dL_law_312 rfl ?_
  refine q_iconst (pc := 313) dL_law_313 ?_
  refine q_iadd (pc := 314) dL_law_314 ?_
  refine q_sald (pc := 315) dL_law_315 (by omega) (by omega) ?_
  refine q_V5i (pc := 316) dL_law_316 vL_22 rfl rfl (Nat.le_of_ble_eq_true rfl) (Nat.le_of_ble_eq_true rfl) (x_copy hC hV (sb _) (sb _) (sb _) (sb _) (sb _)) (fun r1 σ1 hc1 => ?_)
  obtain ⟨A1, hs1, hF1, hC1⟩ := hc1
  refine q_aload_n (pc := 319) dL_law_319 rfl ?_
  refine q_aload_n (pc := 320) dL_law_320 rfl ?_
  refine q_iload_n (pc := 321) dL_law_321 rfl ?_
  refine q_iconst (pc := 322) dL_law_322 ?_
  refine q_iadd (pc := 323) dL_law_323 ?_
  refine q_sald (pc := 324) dL_law_324 (by omega) (by omega) ?_
  refine q_aload_n (pc := 325) dL_law_325 rfl ?_
  refine q_iload_n (pc := 326) dL_law_326 rfl ?_
  refine q_iconst (pc := 327) dL_law_327 ?_
  refine q_iadd (pc := 328) dL_law_328 ?_
  refine q_sald (pc := 329) dL_law_329 (by omega) (by omega) ?_
  refine q_aload_n (pc := 330) dL_law_330 rfl ?_
  refine q_iload_n (pc := 331) dL_law_331 rfl ?_
  refine q_iconst (pc := 332) dL_law_332 ?_
  refine q_iadd (pc := 333) dL_law_333 ?_
  refine q_sald (pc := 334) dL_law_334 (by omega) (by omega) ?_
  refine q_aload_n (pc := 335) dL_law_335 rfl ?_
  refine q_iload_n (pc := 336) dL_law_336 rfl ?_
  refine q_iconst (pc := 337) dL_law_337 ?_
  refine q_iadd (pc := 338) dL_law_338 ?_
  refine q_sald (pc := 339) dL_law_339 (by omega) (by omega) ?_
  refine q_aload_n (pc := 340) dL_law_340 rfl ?_
  refine q_iload_n (pc := 341) dL_law_341 rfl ?_
  refine q_iconst (pc := 342) dL_law_342 ?_
  refine q_iadd (pc := 343) dL_law_343 ?_
  refine q_sald (pc := 344) dL_law_344 (by omega) (by omega) ?_
  refine q_V5i (pc := 345) dL_law_345 vL_26 rfl rfl (Nat.le_of_ble_eq_true rfl) (Nat.le_of_ble_eq_true rfl) (m_copy (hM.out hF1) hV (sb _) (sb _) (sb _) (sb _) (sb _)) (fun r2 σ2 hc2 => ?_)
  obtain ⟨A2, hs2, hF2, hM2⟩ := hc2
  have he := hs1.symm.trans hs2
  obtain ⟨rfl, rfl⟩ := Prod.mk.inj he
  refine q_eqs (pc := 348) (tgt := 1382) dL_law_348 (by decide) ?_
  exact kk σ2 A1 (hC1.out hF2) hM2 (av_q hs1 (av_copy hV _ _ _ _ _))
theorem l_drop {i : Int} (hC : CR σ A) (hM : MR σ A) (hV : AV A) (hi : 0 ≤ i ∧ i + 6 ≤ G.2.2.2.2.1) (hL : G.2.2.2.2.1 ≤ 384) (kk : ∀ σ' A', CR σ' A' → MR σ' A' → AV A' → qE G mL_law (d + 15) 1382 [(3, vi i), (2, vr 82), (1, vr 0), (0, vr 96)] [] σ' Q) : qE G mL_law (d + 15) 353 [(3, vi i), (2, vr 82), (1, vr 0), (0, vr 96)] [] σ Q := by
  refine q_aload_n (pc := 353) dL_law_353 rfl ?_
  refine q_aload_n (pc := 354) dL_law_354 rfl ?_
  refine q_iload_n (pc := 355) dL_law_355 rfl ?_
  refine q_iconst (pc := 356) dL_law_356 ?_
  refine q_iadd (pc := 357) dL_law_357 ?_
  refine q_sald (pc := 358) dL_law_358 (by omega) (by omega) ?_
  refine q_V1i (pc := 359) dL_law_359 vL_27 rfl rfl (Nat.le_of_ble_eq_true rfl) (Nat.le_of_ble_eq_true rfl) (x_drop hC hV (sb _)) (fun r1 σ1 hc1 => ?_)
  obtain ⟨A1, hs1, hF1, hC1⟩ := hc1
  refine q_aload_n (pc := 362) dL_law_362 rfl ?_
  refine q_aload_n (pc := 363) dL_law_363 rfl ?_
  refine q_iload_n (pc := 364) dL_law_364 rfl ?_
  refine q_iconst (pc := 365) dL_law_365 ?_
  refine q_iadd (pc := 366) dL_law_366 ?_
  refine q_sald (pc := 367) dL_law_367 (by omega) (by omega) ?_
  refine q_V1i (pc := 368) dL_law_368 vL_31 rfl rfl (Nat.le_of_ble_eq_true rfl) (Nat.le_of_ble_eq_true rfl) (m_drop (hM.out hF1) hV (sb _)) (fun r2 σ2 hc2 => ?_)
  obtain ⟨A2, hs2, hF2, hM2⟩ := hc2
  have he := hs1.symm.trans hs2
  obtain ⟨rfl, rfl⟩ := Prod.mk.inj he
  refine q_eqs (pc := 371) (tgt := 1382) dL_law_371 (by decide) ?_
  exact kk σ2 A1 (hC1.out hF2) hM2 (av_q hs1 (av_drop hV _))
theorem l_feed {i : Int} (hC : CR σ A) (hM : MR σ A) (hV : AV A) (hi : 0 ≤ i ∧ i + 6 ≤ G.2.2.2.2.1) (hL : G.2.2.2.2.1 ≤ 384) (kk : ∀ σ' A', CR σ' A' → MR σ' A' → AV A' → qE G mL_law (d + 15) 1382 [(3, vi i), (2, vr 82), (1, vr 0), (0, vr 96)] [] σ' Q) : qE G mL_law (d + 15) 376 [(3, vi i), (2, vr 82), (1, vr 0), (0, vr 96)] [] σ Q := by
  refine q_aload_n (pc := 376) dL_law_376 rfl ?_
  refine q_aload_n (pc := 377) dL_law_377 rfl ?_
  refine q_iload_n (pc := 378) dL_law_378 rfl ?_
  refine q_iconst (pc := 379) dL_law_379 ?_
  refine q_iadd (pc := 380) dL_law_380 ?_
  refine q_sald (pc := 381) dL_law_381 (by omega) (by omega) ?_
  refine q_V1i (pc := 382) dL_law_382 vL_32 rfl rfl (Nat.le_of_ble_eq_true rfl) (Nat.le_of_ble_eq_true rfl) (x_feed hC hV (sb _)) (fun r1 σ1 hc1 => ?_)
  obtain ⟨A1, hs1, hF1, hC1⟩ := hc1
  refine q_aload_n (pc := 385) dL_law_385 rfl ?_
  refine q_aload_n (pc := 386) dL_law_386 rfl ?_
  refine q_iload_n (pc := 387) dL_law_387 rfl ?_
  refine q_iconst (pc := 388) dL_law_388 ?_
  refine q_iadd (pc := 389) dL_law_389 ?_
  refine q_sald (pc := 390) dL_law_390 (by omega) (by omega) ?_
  refine q_V1i (pc := 391) dL_law_391 vL_35 rfl rfl (Nat.le_of_ble_eq_true rfl) (Nat.le_of_ble_eq_true rfl) (m_feed (hM.out hF1) hV (sb _)) (fun r2 σ2 hc2 => ?_)
  obtain ⟨A2, hs2, hF2, hM2⟩ := hc2
  have he := hs1.symm.trans hs2
  obtain ⟨rfl, rfl⟩ := Prod.mk.inj he
  refine q_eqs (pc := 394) (tgt := 1382) dL_law_394 (by decide) ?_
  exact kk σ2 A1 (hC1.out hF2) hM2 (av_q hs1 (av_feed hV _))
theorem l_site {i : Int} (hC : CR σ A) (hM : MR σ A) (hV : AV A) (hi : 0 ≤ i ∧ i + 6 ≤ G.2.2.2.2.1) (hL : G.2.2.2.2.1 ≤ 384) (kk : ∀ σ' A', CR σ' A' → MR σ' A' → AV A' → qE G mL_law (d + 15) 1382 [(3, vi i), (2, vr 82), (1, vr 0), (0, vr 96)] [] σ' Q) : qE G mL_law (d + 15) 399 [(3, vi i), (2, vr 82), (1, vr 0), (0, vr 96)] [] σ Q := by
  refine q_aload_n (pc := 399) dL_law_399 rfl ?_
  refine q_V0i (pc := 400) dL_law_400 vL_36 rfl rfl (Nat.le_of_ble_eq_true rfl) (Nat.le_of_ble_eq_true rfl) (x_site hC hV) (fun r1 σ1 hc1 => ?_)
  obtain ⟨A1, hs1, hF1, hC1⟩ := hc1
  refine q_aload_n (pc := 403) dL_law_403 rfl ?_
  refine q_V0i (pc := 404) dL_law_404 vL_40 rfl rfl (Nat.le_of_ble_eq_true rfl) (Nat.le_of_ble_eq_true rfl) (m_site (hM.out hF1) hV) (fun r2 σ2 hc2 => ?_)
  obtain ⟨A2, hs2, hF2, hM2⟩ := hc2
  have he := hs1.symm.trans hs2
  obtain ⟨rfl, rfl⟩ := Prod.mk.inj he
  refine q_eqs (pc := 407) (tgt := 1382) dL_law_407 (by decide) ?_
  exact kk σ2 A1 (hC1.out hF2) hM2 (av_q hs1 (av_site hV))
theorem l_fault {i : Int} (hC : CR σ A) (hM : MR σ A) (hV : AV A) (hi : 0 ≤ i ∧ i + 6 ≤ G.2.2.2.2.1) (hL : G.2.2.2.2.1 ≤ 384) (kk : ∀ σ' A', CR σ' A' → MR σ' A' → AV A' → qE G mL_law (d + 15) 1382 [(3, vi i), (2, vr 82), (1, vr 0), (0, vr 96)] [] σ' Q) : qE G mL_law (d + 15) 412 [(3, vi i), (2, vr 82), (1, vr 0), (0, vr 96)] [] σ Q := by
  refine q_aload_n (pc := 412) dL_law_412 rfl ?_
  refine q_V0i (pc := 413) dL_law_413 vL_41 rfl rfl (Nat.le_of_ble_eq_true rfl) (Nat.le_of_ble_eq_true rfl) (x_fault hC) (fun r1 σ1 hc1 => ?_)
  obtain ⟨A1, hs1, hF1, hC1⟩ := hc1
  refine q_aload_n (pc := 416) dL_law_416 rfl ?_
  refine q_V0i (pc := 417) dL_law_417 vL_44 rfl rfl (Nat.le_of_ble_eq_true rfl) (Nat.le_of_ble_eq_true rfl) (m_fault (hM.out hF1)) (fun r2 σ2 hc2 => ?_)
  obtain ⟨A2, hs2, hF2, hM2⟩ := hc2
  have he := hs1.symm.trans hs2
  obtain ⟨rfl, rfl⟩ := Prod.mk.inj he
  refine q_eqs (pc := 420) (tgt := 1382) dL_law_420 (by decide) ?_
  exact kk σ2 A1 (hC1.out hF2) hM2 (av_q hs1 (hV))
theorem l_undo {i : Int} (hC : CR σ A) (hM : MR σ A) (hV : AV A) (hi : 0 ≤ i ∧ i + 6 ≤ G.2.2.2.2.1) (hL : G.2.2.2.2.1 ≤ 384) (kk : ∀ σ' A', CR σ' A' → MR σ' A' → AV A' → qE G mL_law (d + 15) 1382 [(3, vi i), (2, vr 82), (1, vr 0), (0, vr 96)] [] σ' Q) : qE G mL_law (d + 15) 425 [(3, vi i), (2, vr 82), (1, vr 0), (0, vr 96)] [] σ Q := by
  refine q_aload_n (pc := 425) dL_law_425 rfl ?_
  refine q_V0i (pc := 426) dL_law_426 vL_45 rfl rfl (Nat.le_of_ble_eq_true rfl) (Nat.le_of_ble_eq_true rfl) (x_undo hC hV) (fun r1 σ1 hc1 => ?_)
  obtain ⟨A1, hs1, hF1, hC1⟩ := hc1
  refine q_aload_n (pc := 429) dL_law_429 rfl ?_
  refine q_V0i (pc := 430) dL_law_430 vL_48 rfl rfl (Nat.le_of_ble_eq_true rfl) (Nat.le_of_ble_eq_true rfl) (m_undo (hM.out hF1) hV) (fun r2 σ2 hc2 => ?_)
  obtain ⟨A2, hs2, hF2, hM2⟩ := hc2
  have he := hs1.symm.trans hs2
  obtain ⟨rfl, rfl⟩ := Prod.mk.inj he
  refine q_eqs (pc := 433) (tgt := 1382) dL_law_433 (by decide) ?_
  exact kk σ2 A1 (hC1.out hF2) hM2 (av_q hs1 (av_undo hV))
theorem l_hours {i : Int} (hC : CR σ A) (hM : MR σ A) (hV : AV A) (hi : 0 ≤ i ∧ i + 6 ≤ G.2.2.2.2.1) (hL : G.2.2.2.2.1 ≤ 384) (kk : ∀ σ' A', CR σ' A' → MR σ' A' → AV A' → qE G mL_law (d + 15) 1382 [(3, vi i), (2, vr 82), (1, vr 0), (0, vr 96)] [] σ' Q) : qE G mL_law (d + 15) 438 [(3, vi i), (2, vr 82), (1, vr 0), (0, vr 96)] [] σ Q := by
  refine q_aload_n (pc := 438) dL_law_438 rfl ?_
  refine q_aload_n (pc := 439) dL_law_439 rfl ?_
  refine q_iload_n (pc := 440) dL_law_440 rfl ?_
  refine q_iconst (pc := 441) dL_law_441 ?_
  refine q_iadd (pc := 442) dL_law_442 ?_
  refine q_sald (pc := 443) dL_law_443 (by omega) (by omega) ?_
  refine q_V1i (pc := 444) dL_law_444 vL_49 rfl rfl (Nat.le_of_ble_eq_true rfl) (Nat.le_of_ble_eq_true rfl) (x_hours hC hV (sb _)) (fun r1 σ1 hc1 => ?_)
  obtain ⟨A1, hs1, hF1, hC1⟩ := hc1
  refine q_aload_n (pc := 447) dL_law_447 rfl ?_
  refine q_aload_n (pc := 448) dL_law_448 rfl ?_
  refine q_iload_n (pc := 449) dL_law_449 rfl ?_
  refine q_iconst (pc := 450) dL_law_450 ?_
  refine q_iadd (pc := 451) dL_law_451 ?_
  refine q_sald (pc := 452) dL_law_452 (by omega) (by omega) ?_
  refine q_V1i (pc := 453) dL_law_453 vL_52 rfl rfl (Nat.le_of_ble_eq_true rfl) (Nat.le_of_ble_eq_true rfl) (m_hours (hM.out hF1) hV (sb _)) (fun r2 σ2 hc2 => ?_)
  obtain ⟨A2, hs2, hF2, hM2⟩ := hc2
  have he := hs1.symm.trans hs2
  obtain ⟨rfl, rfl⟩ := Prod.mk.inj he
  refine q_eqs (pc := 456) (tgt := 1382) dL_law_456 (by decide) ?_
  exact kk σ2 A1 (hC1.out hF2) hM2 (av_q hs1 (av_hours hV _))
theorem l_perform {i : Int} (hC : CR σ A) (hM : MR σ A) (hV : AV A) (hi : 0 ≤ i ∧ i + 6 ≤ G.2.2.2.2.1) (hL : G.2.2.2.2.1 ≤ 384) (kk : ∀ σ' A', CR σ' A' → MR σ' A' → AV A' → qE G mL_law (d + 15) 1382 [(3, vi i), (2, vr 82), (1, vr 0), (0, vr 96)] [] σ' Q) : qE G mL_law (d + 15) 461 [(3, vi i), (2, vr 82), (1, vr 0), (0, vr 96)] [] σ Q := by
  refine q_aload_n (pc := 461) dL_law_461 rfl ?_
  refine q_aload_n (pc := 462) dL_law_462 rfl ?_
  refine q_iload_n (pc := 463) dL_law_463 rfl ?_
  refine q_iconst (pc := 464) dL_law_464 ?_
  refine q_iadd (pc := 465) dL_law_465 ?_
  refine q_sald (pc := 466) dL_law_466 (by omega) (by omega) ?_
  refine q_V1i (pc := 467) dL_law_467 vL_53 rfl rfl (Nat.le_of_ble_eq_true rfl) (Nat.le_of_ble_eq_true rfl) (x_perform hC hV (sb _)) (fun r1 σ1 hc1 => ?_)
  obtain ⟨A1, hs1, hF1, hC1⟩ := hc1
  refine q_aload_n (pc := 470) dL_law_470 rfl ?_
  refine q_aload_n (pc := 471) dL_law_471 rfl ?_
  refine q_iload_n (pc := 472) dL_law_472 rfl ?_
  refine q_iconst (pc := 473) dL_law_473 ?_
  refine q_iadd (pc := 474) dL_law_474 ?_
  refine q_sald (pc := 475) dL_law_475 (by omega) (by omega) ?_
  refine q_V1i (pc := 476) dL_law_476 vL_56 rfl rfl (Nat.le_of_ble_eq_true rfl) (Nat.le_of_ble_eq_true rfl) (m_perform (hM.out hF1) hV (sb _)) (fun r2 σ2 hc2 => ?_)
  obtain ⟨A2, hs2, hF2, hM2⟩ := hc2
  have he := hs1.symm.trans hs2
  obtain ⟨rfl, rfl⟩ := Prod.mk.inj he
  refine q_eqs (pc := 479) (tgt := 1382) dL_law_479 (by decide) ?_
  exact kk σ2 A1 (hC1.out hF2) hM2 (av_q hs1 (av_perform hV _))
theorem l_board {i : Int} (hC : CR σ A) (hM : MR σ A) (hV : AV A) (hi : 0 ≤ i ∧ i + 6 ≤ G.2.2.2.2.1) (hL : G.2.2.2.2.1 ≤ 384) (kk : ∀ σ' A', CR σ' A' → MR σ' A' → AV A' → qE G mL_law (d + 15) 1382 [(3, vi i), (2, vr 82), (1, vr 0), (0, vr 96)] [] σ' Q) : qE G mL_law (d + 15) 484 [(3, vi i), (2, vr 82), (1, vr 0), (0, vr 96)] [] σ Q := by
  refine q_aload_n (pc := 484) dL_law_484 rfl ?_
  refine q_aload_n (pc := 485) dL_law_485 rfl ?_
  refine q_iload_n (pc := 486) dL_law_486 rfl ?_
  refine q_iconst (pc := 487) dL_law_487 ?_
  refine q_iadd (pc := 488) dL_law_488 ?_
  refine q_sald (pc := 489) dL_law_489 (by omega) (by omega) ?_
  refine q_V1i (pc := 490) dL_law_490 vL_57 rfl rfl (Nat.le_of_ble_eq_true rfl) (Nat.le_of_ble_eq_true rfl) (x_board hC hV (sb _)) (fun r1 σ1 hc1 => ?_)
  obtain ⟨A1, hs1, hF1, hC1⟩ := hc1
  refine q_aload_n (pc := 493) dL_law_493 rfl ?_
  refine q_aload_n (pc := 494) dL_law_494 rfl ?_
  refine q_iload_n (pc := 495) dL_law_495 rfl ?_
  refine q_iconst (pc := 496) dL_law_496 ?_
  refine q_iadd (pc := 497) dL_law_497 ?_
  refine q_sald (pc := 498) dL_law_498 (by omega) (by omega) ?_
  refine q_V1i (pc := 499) dL_law_499 vL_60 rfl rfl (Nat.le_of_ble_eq_true rfl) (Nat.le_of_ble_eq_true rfl) (m_board (hM.out hF1) hV (sb _)) (fun r2 σ2 hc2 => ?_)
  obtain ⟨A2, hs2, hF2, hM2⟩ := hc2
  have he := hs1.symm.trans hs2
  obtain ⟨rfl, rfl⟩ := Prod.mk.inj he
  refine q_eqs (pc := 502) (tgt := 1382) dL_law_502 (by decide) ?_
  exact kk σ2 A1 (hC1.out hF2) hM2 (av_q hs1 (av_board hV _))
theorem l_amount {i : Int} (hC : CR σ A) (hM : MR σ A) (hV : AV A) (hi : 0 ≤ i ∧ i + 6 ≤ G.2.2.2.2.1) (hL : G.2.2.2.2.1 ≤ 384) (kk : ∀ σ' A', CR σ' A' → MR σ' A' → AV A' → qE G mL_law (d + 15) 1382 [(3, vi i), (2, vr 82), (1, vr 0), (0, vr 96)] [] σ' Q) : qE G mL_law (d + 15) 507 [(3, vi i), (2, vr 82), (1, vr 0), (0, vr 96)] [] σ Q := by
  refine q_aload_n (pc := 507) dL_law_507 rfl ?_
  refine q_aload_n (pc := 508) dL_law_508 rfl ?_
  refine q_iload_n (pc := 509) dL_law_509 rfl ?_
  refine q_iconst (pc := 510) dL_law_510 ?_
  refine q_iadd (pc := 511) dL_law_511 ?_
  refine q_sald (pc := 512) dL_law_512 (by omega) (by omega) ?_
  refine q_aload_n (pc := 513) dL_law_513 rfl ?_
  refine q_iload_n (pc := 514) dL_law_514 rfl ?_
  refine q_iconst (pc := 515) dL_law_515 ?_
  refine q_iadd (pc := 516) dL_law_516 ?_
  refine q_sald (pc := 517) dL_law_517 (by omega) (by omega) ?_
  refine q_V2i (pc := 518) dL_law_518 vL_61 rfl rfl (Nat.le_of_ble_eq_true rfl) (Nat.le_of_ble_eq_true rfl) (x_amount hC hV (sb _) (sb _)) (fun r1 σ1 hc1 => ?_)
  obtain ⟨A1, hs1, hF1, hC1⟩ := hc1
  refine q_aload_n (pc := 521) dL_law_521 rfl ?_
  refine q_aload_n (pc := 522) dL_law_522 rfl ?_
  refine q_iload_n (pc := 523) dL_law_523 rfl ?_
  refine q_iconst (pc := 524) dL_law_524 ?_
  refine q_iadd (pc := 525) dL_law_525 ?_
  refine q_sald (pc := 526) dL_law_526 (by omega) (by omega) ?_
  refine q_aload_n (pc := 527) dL_law_527 rfl ?_
  refine q_iload_n (pc := 528) dL_law_528 rfl ?_
  refine q_iconst (pc := 529) dL_law_529 ?_
  refine q_iadd (pc := 530) dL_law_530 ?_
  refine q_sald (pc := 531) dL_law_531 (by omega) (by omega) ?_
  refine q_V2i (pc := 532) dL_law_532 vL_65 rfl rfl (Nat.le_of_ble_eq_true rfl) (Nat.le_of_ble_eq_true rfl) (m_amount (hM.out hF1) hV (sb _) (sb _)) (fun r2 σ2 hc2 => ?_)
  obtain ⟨A2, hs2, hF2, hM2⟩ := hc2
  have he := hs1.symm.trans hs2
  obtain ⟨rfl, rfl⟩ := Prod.mk.inj he
  refine q_eqs (pc := 535) (tgt := 1382) dL_law_535 (by decide) ?_
  exact kk σ2 A1 (hC1.out hF2) hM2 (av_q hs1 (av_amount hV _ _))
theorem l_jack {i : Int} (hC : CR σ A) (hM : MR σ A) (hV : AV A) (hi : 0 ≤ i ∧ i + 6 ≤ G.2.2.2.2.1) (hL : G.2.2.2.2.1 ≤ 384) (kk : ∀ σ' A', CR σ' A' → MR σ' A' → AV A' → qE G mL_law (d + 15) 1382 [(3, vi i), (2, vr 82), (1, vr 0), (0, vr 96)] [] σ' Q) : qE G mL_law (d + 15) 540 [(3, vi i), (2, vr 82), (1, vr 0), (0, vr 96)] [] σ Q := by
  refine q_aload_n (pc := 540) dL_law_540 rfl ?_
  refine q_aload_n (pc := 541) dL_law_541 rfl ?_
  refine q_iload_n (pc := 542) dL_law_542 rfl ?_
  refine q_iconst (pc := 543) dL_law_543 ?_
  refine q_iadd (pc := 544) dL_law_544 ?_
  refine q_sald (pc := 545) dL_law_545 (by omega) (by omega) ?_
  refine q_aload_n (pc := 546) dL_law_546 rfl ?_
  refine q_iload_n (pc := 547) dL_law_547 rfl ?_
  refine q_iconst (pc := 548) dL_law_548 ?_
  refine q_iadd (pc := 549) dL_law_549 ?_
  refine q_sald (pc := 550) dL_law_550 (by omega) (by omega) ?_
  refine q_V2i (pc := 551) dL_law_551 vL_66 rfl rfl (Nat.le_of_ble_eq_true rfl) (Nat.le_of_ble_eq_true rfl) (x_jack hC hV (sb _) (sb _)) (fun r1 σ1 hc1 => ?_)
  obtain ⟨A1, hs1, hF1, hC1⟩ := hc1
  refine q_aload_n (pc := 554) dL_law_554 rfl ?_
  refine q_aload_n (pc := 555) dL_law_555 rfl ?_
  refine q_iload_n (pc := 556) dL_law_556 rfl ?_
  refine q_iconst (pc := 557) dL_law_557 ?_
  refine q_iadd (pc := 558) dL_law_558 ?_
  refine q_sald (pc := 559) dL_law_559 (by omega) (by omega) ?_
  refine q_aload_n (pc := 560) dL_law_560 rfl ?_
  refine q_iload_n (pc := 561) dL_law_561 rfl ?_
  refine q_iconst (pc := 562) dL_law_562 ?_
  refine q_iadd (pc := 563) dL_law_563 ?_
  refine q_sald (pc := 564) dL_law_564 (by omega) (by omega) ?_
  refine q_V2i (pc := 565) dL_law_565 vL_69 rfl rfl (Nat.le_of_ble_eq_true rfl) (Nat.le_of_ble_eq_true rfl) (m_jack (hM.out hF1) hV (sb _) (sb _)) (fun r2 σ2 hc2 => ?_)
  obtain ⟨A2, hs2, hF2, hM2⟩ := hc2
  have he := hs1.symm.trans hs2
  obtain ⟨rfl, rfl⟩ := Prod.mk.inj he
  refine q_eqs (pc := 568) (tgt := 1382) dL_law_568 (by decide) ?_
  exact kk σ2 A1 (hC1.out hF2) hM2 (av_q hs1 (av_jack hV _ _))
theorem l_foot {i : Int} (hC : CR σ A) (hM : MR σ A) (hV : AV A) (hi : 0 ≤ i ∧ i + 6 ≤ G.2.2.2.2.1) (hL : G.2.2.2.2.1 ≤ 384) (kk : ∀ σ' A', CR σ' A' → MR σ' A' → AV A' → qE G mL_law (d + 15) 1382 [(3, vi i), (2, vr 82), (1, vr 0), (0, vr 96)] [] σ' Q) : qE G mL_law (d + 15) 573 [(3, vi i), (2, vr 82), (1, vr 0), (0, vr 96)] [] σ Q := by
  refine q_aload_n (pc := 573) dL_law_573 rfl ?_
  refine q_aload_n (pc := 574) dL_law_574 rfl ?_
  refine q_iload_n (pc := 575) dL_law_575 rfl ?_
  refine q_iconst (pc := 576) dL_law_576 ?_
  refine q_iadd (pc := 577) dL_law_577 ?_
  refine q_sald (pc := 578) dL_law_578 (by omega) (by omega) ?_
  refine q_aload_n (pc := 579) dL_law_579 rfl ?_
  refine q_iload_n (pc := 580) dL_law_580 rfl ?_
  refine q_iconst (pc := 581) dL_law_581 ?_
  refine q_iadd (pc := 582) dL_law_582 ?_
  refine q_sald (pc := 583) dL_law_583 (by omega) (by omega) ?_
  refine q_V2i (pc := 584) dL_law_584 vL_70 rfl rfl (Nat.le_of_ble_eq_true rfl) (Nat.le_of_ble_eq_true rfl) (x_foot hC hV (sb _) (sb _)) (fun r1 σ1 hc1 => ?_)
  obtain ⟨A1, hs1, hF1, hC1⟩ := hc1
  refine q_aload_n (pc := 587) dL_law_587 rfl ?_
  refine q_aload_n (pc := 588) dL_law_588 rfl ?_
  refine q_iload_n (pc := 589) dL_law_589 rfl ?_
  refine q_iconst (pc := 590) dL_law_590 ?_
  refine q_iadd (pc := 591) dL_law_591 ?_
  refine q_sald (pc := 592) dL_law_592 (by omega) (by omega) ?_
  refine q_aload_n (pc := 593) dL_law_593 rfl ?_
  refine q_iload_n (pc := 594) dL_law_594 rfl ?_
  refine q_iconst (pc := 595) dL_law_595 ?_
  refine q_iadd (pc := 596) dL_law_596 ?_
  refine q_sald (pc := 597) dL_law_597 (by omega) (by omega) ?_
  refine q_V2i (pc := 598) dL_law_598 vL_73 rfl rfl (Nat.le_of_ble_eq_true rfl) (Nat.le_of_ble_eq_true rfl) (m_foot (hM.out hF1) hV (sb _) (sb _)) (fun r2 σ2 hc2 => ?_)
  obtain ⟨A2, hs2, hF2, hM2⟩ := hc2
  have he := hs1.symm.trans hs2
  obtain ⟨rfl, rfl⟩ := Prod.mk.inj he
  refine q_eqs (pc := 601) (tgt := 1382) dL_law_601 (by decide) ?_
  exact kk σ2 A1 (hC1.out hF2) hM2 (av_q hs1 (hV))
theorem l_deed {i : Int} (hC : CR σ A) (hM : MR σ A) (hV : AV A) (hi : 0 ≤ i ∧ i + 6 ≤ G.2.2.2.2.1) (hL : G.2.2.2.2.1 ≤ 384) (kk : ∀ σ' A', CR σ' A' → MR σ' A' → AV A' → qE G mL_law (d + 15) 1382 [(3, vi i), (2, vr 82), (1, vr 0), (0, vr 96)] [] σ' Q) : qE G mL_law (d + 15) 606 [(3, vi i), (2, vr 82), (1, vr 0), (0, vr 96)] [] σ Q := by
  refine q_aload_n (pc := 606) dL_law_606 rfl ?_
  refine q_aload_n (pc := 607) dL_law_607 rfl ?_
  refine q_iload_n (pc := 608) dL_law_608 rfl ?_
  refine q_iconst (pc := 609) dL_law_609 ?_
  refine q_iadd (pc := 610) dL_law_610 ?_
  refine q_sald (pc := 611) dL_law_611 (by omega) (by omega) ?_
  refine q_aload_n (pc := 612) dL_law_612 rfl ?_
  refine q_iload_n (pc := 613) dL_law_613 rfl ?_
  refine q_iconst (pc := 614) dL_law_614 ?_
  refine q_iadd (pc := 615) dL_law_615 ?_
  refine q_sald (pc := 616) dL_law_616 (by omega) (by omega) ?_
  refine q_V2i (pc := 617) dL_law_617 vL_74 rfl rfl (Nat.le_of_ble_eq_true rfl) (Nat.le_of_ble_eq_true rfl) (x_deed hC hV (sb _) (sb _)) (fun r1 σ1 hc1 => ?_)
  obtain ⟨A1, hs1, hF1, hC1⟩ := hc1
  refine q_aload_n (pc := 620) dL_law_620 rfl ?_
  refine q_aload_n (pc := 621) dL_law_621 rfl ?_
  refine q_iload_n (pc := 622) dL_law_622 rfl ?_
  refine q_iconst (pc := 623) dL_law_623 ?_
  refine q_iadd (pc := 624) dL_law_624 ?_
  refine q_sald (pc := 625) dL_law_625 (by omega) (by omega) ?_
  refine q_aload_n (pc := 626) dL_law_626 rfl ?_
  refine q_iload_n (pc := 627) dL_law_627 rfl ?_
  refine q_iconst (pc := 628) dL_law_628 ?_
  refine q_iadd (pc := 629) dL_law_629 ?_
  refine q_sald (pc := 630) dL_law_630 (by omega) (by omega) ?_
  refine q_V2i (pc := 631) dL_law_631 vL_77 rfl rfl (Nat.le_of_ble_eq_true rfl) (Nat.le_of_ble_eq_true rfl) (m_deed (hM.out hF1) hV (sb _) (sb _)) (fun r2 σ2 hc2 => ?_)
  obtain ⟨A2, hs2, hF2, hM2⟩ := hc2
  have he := hs1.symm.trans hs2
  obtain ⟨rfl, rfl⟩ := Prod.mk.inj he
  refine q_eqs (pc := 634) (tgt := 1382) dL_law_634 (by decide) ?_
  exact kk σ2 A1 (hC1.out hF2) hM2 (av_q hs1 (hV))
theorem l_lean {i : Int} (hC : CR σ A) (hM : MR σ A) (hV : AV A) (hi : 0 ≤ i ∧ i + 6 ≤ G.2.2.2.2.1) (hL : G.2.2.2.2.1 ≤ 384) (kk : ∀ σ' A', CR σ' A' → MR σ' A' → AV A' → qE G mL_law (d + 15) 1382 [(3, vi i), (2, vr 82), (1, vr 0), (0, vr 96)] [] σ' Q) : qE G mL_law (d + 15) 639 [(3, vi i), (2, vr 82), (1, vr 0), (0, vr 96)] [] σ Q := by
  refine q_aload_n (pc := 639) dL_law_639 rfl ?_
  refine q_aload_n (pc := 640) dL_law_640 rfl ?_
  refine q_iload_n (pc := 641) dL_law_641 rfl ?_
  refine q_iconst (pc := 642) dL_law_642 ?_
  refine q_iadd (pc := 643) dL_law_643 ?_
  refine q_sald (pc := 644) dL_law_644 (by omega) (by omega) ?_
  refine q_V1i (pc := 645) dL_law_645 vL_78 rfl rfl (Nat.le_of_ble_eq_true rfl) (Nat.le_of_ble_eq_true rfl) (x_lean hC hV (sb _)) (fun r1 σ1 hc1 => ?_)
  obtain ⟨A1, hs1, hF1, hC1⟩ := hc1
  refine q_aload_n (pc := 648) dL_law_648 rfl ?_
  refine q_aload_n (pc := 649) dL_law_649 rfl ?_
  refine q_iload_n (pc := 650) dL_law_650 rfl ?_
  refine q_iconst (pc := 651) dL_law_651 ?_
  refine q_iadd (pc := 652) dL_law_652 ?_
  refine q_sald (pc := 653) dL_law_653 (by omega) (by omega) ?_
  refine q_V1i (pc := 654) dL_law_654 vL_81 rfl rfl (Nat.le_of_ble_eq_true rfl) (Nat.le_of_ble_eq_true rfl) (m_lean (hM.out hF1) hV (sb _)) (fun r2 σ2 hc2 => ?_)
  obtain ⟨A2, hs2, hF2, hM2⟩ := hc2
  have he := hs1.symm.trans hs2
  obtain ⟨rfl, rfl⟩ := Prod.mk.inj he
  refine q_eqs (pc := 657) (tgt := 1382) dL_law_657 (by decide) ?_
  exact kk σ2 A1 (hC1.out hF2) hM2 (av_q hs1 (hV))
theorem l_ahead {i : Int} (hC : CR σ A) (hM : MR σ A) (hV : AV A) (hi : 0 ≤ i ∧ i + 6 ≤ G.2.2.2.2.1) (hL : G.2.2.2.2.1 ≤ 384) (kk : ∀ σ' A', CR σ' A' → MR σ' A' → AV A' → qE G mL_law (d + 15) 1382 [(3, vi i), (2, vr 82), (1, vr 0), (0, vr 96)] [] σ' Q) : qE G mL_law (d + 15) 662 [(3, vi i), (2, vr 82), (1, vr 0), (0, vr 96)] [] σ Q := by
  refine q_aload_n (pc := 662) dL_law_662 rfl ?_
  refine q_aload_n (pc := 663) dL_law_663 rfl ?_
  refine q_iload_n (pc := 664) dL_law_664 rfl ?_
  refine q_iconst (pc := 665) dL_law_665 ?_
  refine q_iadd (pc := 666) dL_law_666 ?_
  refine q_sald (pc := 667) dL_law_667 (by omega) (by omega) ?_
  refine q_aload_n (pc := 668) dL_law_668 rfl ?_
  refine q_iload_n (pc := 669) dL_law_669 rfl ?_
  refine q_iconst (pc := 670) dL_law_670 ?_
  refine q_iadd (pc := 671) dL_law_671 ?_
  refine q_sald (pc := 672) dL_law_672 (by omega) (by omega) ?_
  refine q_V2i (pc := 673) dL_law_673 vL_82 rfl rfl (Nat.le_of_ble_eq_true rfl) (Nat.le_of_ble_eq_true rfl) (x_ahead hC hV (sb _) (sb _)) (fun r1 σ1 hc1 => ?_)
  obtain ⟨A1, hs1, hF1, hC1⟩ := hc1
  refine q_aload_n (pc := 676) dL_law_676 rfl ?_
  refine q_aload_n (pc := 677) dL_law_677 rfl ?_
  refine q_iload_n (pc := 678) dL_law_678 rfl ?_
  refine q_iconst (pc := 679) dL_law_679 ?_
  refine q_iadd (pc := 680) dL_law_680 ?_
  refine q_sald (pc := 681) dL_law_681 (by omega) (by omega) ?_
  refine q_aload_n (pc := 682) dL_law_682 rfl ?_
  refine q_iload_n (pc := 683) dL_law_683 rfl ?_
  refine q_iconst (pc := 684) dL_law_684 ?_
  refine q_iadd (pc := 685) dL_law_685 ?_
  refine q_sald (pc := 686) dL_law_686 (by omega) (by omega) ?_
  refine q_V2i (pc := 687) dL_law_687 vL_85 rfl rfl (Nat.le_of_ble_eq_true rfl) (Nat.le_of_ble_eq_true rfl) (m_ahead (hM.out hF1) hV (sb _) (sb _)) (fun r2 σ2 hc2 => ?_)
  obtain ⟨A2, hs2, hF2, hM2⟩ := hc2
  have he := hs1.symm.trans hs2
  obtain ⟨rfl, rfl⟩ := Prod.mk.inj he
  refine q_eqs (pc := 690) (tgt := 1382) dL_law_690 (by decide) ?_
  exact kk σ2 A1 (hC1.out hF2) hM2 (av_q hs1 (hV))
theorem l_leanAhead {i : Int} (hC : CR σ A) (hM : MR σ A) (hV : AV A) (hi : 0 ≤ i ∧ i + 6 ≤ G.2.2.2.2.1) (hL : G.2.2.2.2.1 ≤ 384) (kk : ∀ σ' A', CR σ' A' → MR σ' A' → AV A' → qE G mL_law (d + 15) 1382 [(3, vi i), (2, vr 82), (1, vr 0), (0, vr 96)] [] σ' Q) : qE G mL_law (d + 15) 695 [(3, vi i), (2, vr 82), (1, vr 0), (0, vr 96)] [] σ Q := by
  refine q_aload_n (pc := 695) dL_law_695 rfl ?_
  refine q_aload_n (pc := 696) dL_law_696 rfl ?_
  refine q_iload_n (pc := 697) dL_law_697 rfl ?_
  refine q_iconst (pc := 698) dL_law_698 ?_
  refine q_iadd (pc := 699) dL_law_699 ?_
  refine q_sald (pc := 700) dL_law_700 (by omega) (by omega) ?_
  refine q_aload_n (pc := 701) dL_law_701 rfl ?_
  refine q_iload_n (pc := 702) dL_law_702 rfl ?_
  refine q_iconst (pc := 703) dL_law_703 ?_
  refine q_iadd (pc := 704) dL_law_704 ?_
  refine q_sald (pc := 705) dL_law_705 (by omega) (by omega) ?_
  refine q_V2i (pc := 706) dL_law_706 vL_86 rfl rfl (Nat.le_of_ble_eq_true rfl) (Nat.le_of_ble_eq_true rfl) (x_leanAhead hC hV (sb _) (sb _)) (fun r1 σ1 hc1 => ?_)
  obtain ⟨A1, hs1, hF1, hC1⟩ := hc1
  refine q_aload_n (pc := 709) dL_law_709 rfl ?_
  refine q_aload_n (pc := 710) dL_law_710 rfl ?_
  refine q_iload_n (pc := 711) dL_law_711 rfl ?_
  refine q_iconst (pc := 712) dL_law_712 ?_
  refine q_iadd (pc := 713) dL_law_713 ?_
  refine q_sald (pc := 714) dL_law_714 (by omega) (by omega) ?_
  refine q_aload_n (pc := 715) dL_law_715 rfl ?_
  refine q_iload_n (pc := 716) dL_law_716 rfl ?_
  refine q_iconst (pc := 717) dL_law_717 ?_
  refine q_iadd (pc := 718) dL_law_718 ?_
  refine q_sald (pc := 719) dL_law_719 (by omega) (by omega) ?_
  refine q_V2i (pc := 720) dL_law_720 vL_89 rfl rfl (Nat.le_of_ble_eq_true rfl) (Nat.le_of_ble_eq_true rfl) (m_leanAhead (hM.out hF1) hV (sb _) (sb _)) (fun r2 σ2 hc2 => ?_)
  obtain ⟨A2, hs2, hF2, hM2⟩ := hc2
  have he := hs1.symm.trans hs2
  obtain ⟨rfl, rfl⟩ := Prod.mk.inj he
  refine q_eqs (pc := 723) (tgt := 1382) dL_law_723 (by decide) ?_
  exact kk σ2 A1 (hC1.out hF2) hM2 (av_q hs1 (hV))
theorem l_lasts {i : Int} (hC : CR σ A) (hM : MR σ A) (hV : AV A) (hi : 0 ≤ i ∧ i + 6 ≤ G.2.2.2.2.1) (hL : G.2.2.2.2.1 ≤ 384) (kk : ∀ σ' A', CR σ' A' → MR σ' A' → AV A' → qE G mL_law (d + 15) 1382 [(3, vi i), (2, vr 82), (1, vr 0), (0, vr 96)] [] σ' Q) : qE G mL_law (d + 15) 728 [(3, vi i), (2, vr 82), (1, vr 0), (0, vr 96)] [] σ Q := by
  refine q_aload_n (pc := 728) dL_law_728 rfl ?_
  refine q_V0i (pc := 729) dL_law_729 vL_90 rfl rfl (Nat.le_of_ble_eq_true rfl) (Nat.le_of_ble_eq_true rfl) (x_lasts hC hV) (fun r1 σ1 hc1 => ?_)
  obtain ⟨A1, hs1, hF1, hC1⟩ := hc1
  refine q_aload_n (pc := 732) dL_law_732 rfl ?_
  refine q_V0i (pc := 733) dL_law_733 vL_93 rfl rfl (Nat.le_of_ble_eq_true rfl) (Nat.le_of_ble_eq_true rfl) (m_lasts (hM.out hF1) hV) (fun r2 σ2 hc2 => ?_)
  obtain ⟨A2, hs2, hF2, hM2⟩ := hc2
  have he := hs1.symm.trans hs2
  obtain ⟨rfl, rfl⟩ := Prod.mk.inj he
  refine q_eqs (pc := 736) (tgt := 1382) dL_law_736 (by decide) ?_
  exact kk σ2 A1 (hC1.out hF2) hM2 (av_q hs1 (hV))
theorem l_first {i : Int} (hC : CR σ A) (hM : MR σ A) (hV : AV A) (hi : 0 ≤ i ∧ i + 6 ≤ G.2.2.2.2.1) (hL : G.2.2.2.2.1 ≤ 384) (kk : ∀ σ' A', CR σ' A' → MR σ' A' → AV A' → qE G mL_law (d + 15) 1382 [(3, vi i), (2, vr 82), (1, vr 0), (0, vr 96)] [] σ' Q) : qE G mL_law (d + 15) 741 [(3, vi i), (2, vr 82), (1, vr 0), (0, vr 96)] [] σ Q := by
  refine q_aload_n (pc := 741) dL_law_741 rfl ?_
  refine q_V0i (pc := 742) dL_law_742 vL_94 rfl rfl (Nat.le_of_ble_eq_true rfl) (Nat.le_of_ble_eq_true rfl) (x_first hC hV) (fun r1 σ1 hc1 => ?_)
  obtain ⟨A1, hs1, hF1, hC1⟩ := hc1
  refine q_aload_n (pc := 745) dL_law_745 rfl ?_
  refine q_V0i (pc := 746) dL_law_746 vL_97 rfl rfl (Nat.le_of_ble_eq_true rfl) (Nat.le_of_ble_eq_true rfl) (m_first (hM.out hF1) hV) (fun r2 σ2 hc2 => ?_)
  obtain ⟨A2, hs2, hF2, hM2⟩ := hc2
  have he := hs1.symm.trans hs2
  obtain ⟨rfl, rfl⟩ := Prod.mk.inj he
  refine q_eqs (pc := 749) (tgt := 1382) dL_law_749 (by decide) ?_
  exact kk σ2 A1 (hC1.out hF2) hM2 (av_q hs1 (hV))
theorem l_attempt {i : Int} (hC : CR σ A) (hM : MR σ A) (hV : AV A) (hi : 0 ≤ i ∧ i + 6 ≤ G.2.2.2.2.1) (hL : G.2.2.2.2.1 ≤ 384) (kk : ∀ σ' A', CR σ' A' → MR σ' A' → AV A' → qE G mL_law (d + 15) 1382 [(3, vi i), (2, vr 82), (1, vr 0), (0, vr 96)] [] σ' Q) : qE G mL_law (d + 15) 754 [(3, vi i), (2, vr 82), (1, vr 0), (0, vr 96)] [] σ Q := by
  refine q_aload_n (pc := 754) dL_law_754 rfl ?_
  refine q_aload_n (pc := 755) dL_law_755 rfl ?_
  refine q_iload_n (pc := 756) dL_law_756 rfl ?_
  refine q_iconst (pc := 757) dL_law_757 ?_
  refine q_iadd (pc := 758) dL_law_758 ?_
  refine q_sald (pc := 759) dL_law_759 (by omega) (by omega) ?_
  refine q_V1i (pc := 760) dL_law_760 vL_98 rfl rfl (Nat.le_of_ble_eq_true rfl) (Nat.le_of_ble_eq_true rfl) (x_attempt hC hV (sb _)) (fun r1 σ1 hc1 => ?_)
  obtain ⟨A1, hs1, hF1, hC1⟩ := hc1
  refine q_aload_n (pc := 763) dL_law_763 rfl ?_
  refine q_aload_n (pc := 764) dL_law_764 rfl ?_
  refine q_iload_n (pc := 765) dL_law_765 rfl ?_
  refine q_iconst (pc := 766) dL_law_766 ?_
  refine q_iadd (pc := 767) dL_law_767 ?_
  refine q_sald (pc := 768) dL_law_768 (by omega) (by omega) ?_
  refine q_V1i (pc := 769) dL_law_769 vL_101 rfl rfl (Nat.le_of_ble_eq_true rfl) (Nat.le_of_ble_eq_true rfl) (m_attempt (hM.out hF1) hV (sb _)) (fun r2 σ2 hc2 => ?_)
  obtain ⟨A2, hs2, hF2, hM2⟩ := hc2
  have he := hs1.symm.trans hs2
  obtain ⟨rfl, rfl⟩ := Prod.mk.inj he
  refine q_eqs (pc := 772) (tgt := 1382) dL_law_772 (by decide) ?_
  exact kk σ2 A1 (hC1.out hF2) hM2 (av_q hs1 (hV))
theorem l_best {i : Int} (hC : CR σ A) (hM : MR σ A) (hV : AV A) (hi : 0 ≤ i ∧ i + 6 ≤ G.2.2.2.2.1) (hL : G.2.2.2.2.1 ≤ 384) (kk : ∀ σ' A', CR σ' A' → MR σ' A' → AV A' → qE G mL_law (d + 15) 1382 [(3, vi i), (2, vr 82), (1, vr 0), (0, vr 96)] [] σ' Q) : qE G mL_law (d + 15) 777 [(3, vi i), (2, vr 82), (1, vr 0), (0, vr 96)] [] σ Q := by
  refine q_aload_n (pc := 777) dL_law_777 rfl ?_
  refine q_aload_n (pc := 778) dL_law_778 rfl ?_
  refine q_iload_n (pc := 779) dL_law_779 rfl ?_
  refine q_iconst (pc := 780) dL_law_780 ?_
  refine q_iadd (pc := 781) dL_law_781 ?_
  refine q_sald (pc := 782) dL_law_782 (by omega) (by omega) ?_
  refine q_V1i (pc := 783) dL_law_783 vL_102 rfl rfl (Nat.le_of_ble_eq_true rfl) (Nat.le_of_ble_eq_true rfl) (x_best hC hV (sb _)) (fun r1 σ1 hc1 => ?_)
  obtain ⟨A1, hs1, hF1, hC1⟩ := hc1
  refine q_aload_n (pc := 786) dL_law_786 rfl ?_
  refine q_aload_n (pc := 787) dL_law_787 rfl ?_
  refine q_iload_n (pc := 788) dL_law_788 rfl ?_
  refine q_iconst (pc := 789) dL_law_789 ?_
  refine q_iadd (pc := 790) dL_law_790 ?_
  refine q_sald (pc := 791) dL_law_791 (by omega) (by omega) ?_
  refine q_V1i (pc := 792) dL_law_792 vL_105 rfl rfl (Nat.le_of_ble_eq_true rfl) (Nat.le_of_ble_eq_true rfl) (m_best (hM.out hF1) hV (sb _)) (fun r2 σ2 hc2 => ?_)
  obtain ⟨A2, hs2, hF2, hM2⟩ := hc2
  have he := hs1.symm.trans hs2
  obtain ⟨rfl, rfl⟩ := Prod.mk.inj he
  refine q_eqs (pc := 795) (tgt := 1382) dL_law_795 (by decide) ?_
  exact kk σ2 A1 (hC1.out hF2) hM2 (av_q hs1 (hV))
theorem l_plan {i : Int} (hC : CR σ A) (hM : MR σ A) (hV : AV A) (hi : 0 ≤ i ∧ i + 6 ≤ G.2.2.2.2.1) (hL : G.2.2.2.2.1 ≤ 384) (kk : ∀ σ' A', CR σ' A' → MR σ' A' → AV A' → qE G mL_law (d + 15) 1382 [(3, vi i), (2, vr 82), (1, vr 0), (0, vr 96)] [] σ' Q) : qE G mL_law (d + 15) 800 [(3, vi i), (2, vr 82), (1, vr 0), (0, vr 96)] [] σ Q := by
  refine q_aload_n (pc := 800) dL_law_800 rfl ?_
  refine q_aload_n (pc := 801) dL_law_801 rfl ?_
  refine q_iload_n (pc := 802) dL_law_802 rfl ?_
  refine q_iconst (pc := 803) dL_law_803 ?_
  refine q_iadd (pc := 804) dL_law_804 ?_
  refine q_sald (pc := 805) dL_law_805 (by omega) (by omega) ?_
  refine q_aload_n (pc := 806) dL_law_806 rfl ?_
  refine q_iload_n (pc := 807) dL_law_807 rfl ?_
  refine q_iconst (pc := 808) dL_law_808 ?_
  refine q_iadd (pc := 809) dL_law_809 ?_
  refine q_sald (pc := 810) dL_law_810 (by omega) (by omega) ?_
  refine q_V2i (pc := 811) dL_law_811 vL_106 rfl rfl (Nat.le_of_ble_eq_true rfl) (Nat.le_of_ble_eq_true rfl) (x_plan hC hV (sb _) (sb _)) (fun r1 σ1 hc1 => ?_)
  obtain ⟨A1, hs1, hF1, hC1⟩ := hc1
  refine q_aload_n (pc := 814) dL_law_814 rfl ?_
  refine q_aload_n (pc := 815) dL_law_815 rfl ?_
  refine q_iload_n (pc := 816) dL_law_816 rfl ?_
  refine q_iconst (pc := 817) dL_law_817 ?_
  refine q_iadd (pc := 818) dL_law_818 ?_
  refine q_sald (pc := 819) dL_law_819 (by omega) (by omega) ?_
  refine q_aload_n (pc := 820) dL_law_820 rfl ?_
  refine q_iload_n (pc := 821) dL_law_821 rfl ?_
  refine q_iconst (pc := 822) dL_law_822 ?_
  refine q_iadd (pc := 823) dL_law_823 ?_
  refine q_sald (pc := 824) dL_law_824 (by omega) (by omega) ?_
  refine q_V2i (pc := 825) dL_law_825 vL_109 rfl rfl (Nat.le_of_ble_eq_true rfl) (Nat.le_of_ble_eq_true rfl) (m_plan (hM.out hF1) hV (sb _) (sb _)) (fun r2 σ2 hc2 => ?_)
  obtain ⟨A2, hs2, hF2, hM2⟩ := hc2
  have he := hs1.symm.trans hs2
  obtain ⟨rfl, rfl⟩ := Prod.mk.inj he
  refine q_eqs (pc := 828) (tgt := 1382) dL_law_828 (by decide) ?_
  exact kk σ2 A1 (hC1.out hF2) hM2 (av_q hs1 (hV))
theorem l_boards {i : Int} (hC : CR σ A) (hM : MR σ A) (hV : AV A) (hi : 0 ≤ i ∧ i + 6 ≤ G.2.2.2.2.1) (hL : G.2.2.2.2.1 ≤ 384) (kk : ∀ σ' A', CR σ' A' → MR σ' A' → AV A' → qE G mL_law (d + 15) 1382 [(3, vi i), (2, vr 82), (1, vr 0), (0, vr 96)] [] σ' Q) : qE G mL_law (d + 15) 833 [(3, vi i), (2, vr 82), (1, vr 0), (0, vr 96)] [] σ Q := by
  refine q_aload_n (pc := 833) dL_law_833 rfl ?_
  refine q_aload_n (pc := 834) dL_law_834 rfl ?_
  refine q_iload_n (pc := 835) dL_law_835 rfl ?_
  refine q_iconst (pc := 836) dL_law_836 ?_
  refine q_iadd (pc := 837) dL_law_837 ?_
  refine q_sald (pc := 838) dL_law_838 (by omega) (by omega) ?_
  refine q_aload_n (pc := 839) dL_law_839 rfl ?_
  refine q_iload_n (pc := 840) dL_law_840 rfl ?_
  refine q_iconst (pc := 841) dL_law_841 ?_
  refine q_iadd (pc := 842) dL_law_842 ?_
  refine q_sald (pc := 843) dL_law_843 (by omega) (by omega) ?_
  refine q_V2i (pc := 844) dL_law_844 vL_110 rfl rfl (Nat.le_of_ble_eq_true rfl) (Nat.le_of_ble_eq_true rfl) (x_boards hC hV (sb _) (sb _)) (fun r1 σ1 hc1 => ?_)
  obtain ⟨A1, hs1, hF1, hC1⟩ := hc1
  refine q_aload_n (pc := 847) dL_law_847 rfl ?_
  refine q_aload_n (pc := 848) dL_law_848 rfl ?_
  refine q_iload_n (pc := 849) dL_law_849 rfl ?_
  refine q_iconst (pc := 850) dL_law_850 ?_
  refine q_iadd (pc := 851) dL_law_851 ?_
  refine q_sald (pc := 852) dL_law_852 (by omega) (by omega) ?_
  refine q_aload_n (pc := 853) dL_law_853 rfl ?_
  refine q_iload_n (pc := 854) dL_law_854 rfl ?_
  refine q_iconst (pc := 855) dL_law_855 ?_
  refine q_iadd (pc := 856) dL_law_856 ?_
  refine q_sald (pc := 857) dL_law_857 (by omega) (by omega) ?_
  refine q_V2i (pc := 858) dL_law_858 vL_113 rfl rfl (Nat.le_of_ble_eq_true rfl) (Nat.le_of_ble_eq_true rfl) (m_boards (hM.out hF1) hV (sb _) (sb _)) (fun r2 σ2 hc2 => ?_)
  obtain ⟨A2, hs2, hF2, hM2⟩ := hc2
  have he := hs1.symm.trans hs2
  obtain ⟨rfl, rfl⟩ := Prod.mk.inj he
  refine q_eqs (pc := 861) (tgt := 1382) dL_law_861 (by decide) ?_
  exact kk σ2 A1 (hC1.out hF2) hM2 (av_q hs1 (hV))
theorem l_lift {i : Int} (hC : CR σ A) (hM : MR σ A) (hV : AV A) (hi : 0 ≤ i ∧ i + 6 ≤ G.2.2.2.2.1) (hL : G.2.2.2.2.1 ≤ 384) (kk : ∀ σ' A', CR σ' A' → MR σ' A' → AV A' → qE G mL_law (d + 15) 1382 [(3, vi i), (2, vr 82), (1, vr 0), (0, vr 96)] [] σ' Q) : qE G mL_law (d + 15) 866 [(3, vi i), (2, vr 82), (1, vr 0), (0, vr 96)] [] σ Q := by
  refine q_aload_n (pc := 866) dL_law_866 rfl ?_
  refine q_aload_n (pc := 867) dL_law_867 rfl ?_
  refine q_iload_n (pc := 868) dL_law_868 rfl ?_
  refine q_iconst (pc := 869) dL_law_869 ?_
  refine q_iadd (pc := 870) dL_law_870 ?_
  refine q_sald (pc := 871) dL_law_871 (by omega) (by omega) ?_
  refine q_V1i (pc := 872) dL_law_872 vL_114 rfl rfl (Nat.le_of_ble_eq_true rfl) (Nat.le_of_ble_eq_true rfl) (x_lift hC hV (sb _)) (fun r1 σ1 hc1 => ?_)
  obtain ⟨A1, hs1, hF1, hC1⟩ := hc1
  refine q_aload_n (pc := 875) dL_law_875 rfl ?_
  refine q_aload_n (pc := 876) dL_law_876 rfl ?_
  refine q_iload_n (pc := 877) dL_law_877 rfl ?_
  refine q_iconst (pc := 878) dL_law_878 ?_
  refine q_iadd (pc := 879) dL_law_879 ?_
  refine q_sald (pc := 880) dL_law_880 (by omega) (by omega) ?_
  refine q_V1i (pc := 881) dL_law_881 vL_117 rfl rfl (Nat.le_of_ble_eq_true rfl) (Nat.le_of_ble_eq_true rfl) (m_lift (hM.out hF1) hV (sb _)) (fun r2 σ2 hc2 => ?_)
  obtain ⟨A2, hs2, hF2, hM2⟩ := hc2
  have he := hs1.symm.trans hs2
  obtain ⟨rfl, rfl⟩ := Prod.mk.inj he
  refine q_eqs (pc := 884) (tgt := 1382) dL_law_884 (by decide) ?_
  exact kk σ2 A1 (hC1.out hF2) hM2 (av_q hs1 (hV))
theorem l_worst {i : Int} (hC : CR σ A) (hM : MR σ A) (hV : AV A) (hi : 0 ≤ i ∧ i + 6 ≤ G.2.2.2.2.1) (hL : G.2.2.2.2.1 ≤ 384) (kk : ∀ σ' A', CR σ' A' → MR σ' A' → AV A' → qE G mL_law (d + 15) 1382 [(3, vi i), (2, vr 82), (1, vr 0), (0, vr 96)] [] σ' Q) : qE G mL_law (d + 15) 889 [(3, vi i), (2, vr 82), (1, vr 0), (0, vr 96)] [] σ Q := by
  refine q_aload_n (pc := 889) dL_law_889 rfl ?_
  refine q_aload_n (pc := 890) dL_law_890 rfl ?_
  refine q_iload_n (pc := 891) dL_law_891 rfl ?_
  refine q_iconst (pc := 892) dL_law_892 ?_
  refine q_iadd (pc := 893) dL_law_893 ?_
  refine q_sald (pc := 894) dL_law_894 (by omega) (by omega) ?_
  refine q_aload_n (pc := 895) dL_law_895 rfl ?_
  refine q_iload_n (pc := 896) dL_law_896 rfl ?_
  refine q_iconst (pc := 897) dL_law_897 ?_
  refine q_iadd (pc := 898) dL_law_898 ?_
  refine q_sald (pc := 899) dL_law_899 (by omega) (by omega) ?_
  refine q_V2i (pc := 900) dL_law_900 vL_118 rfl rfl (Nat.le_of_ble_eq_true rfl) (Nat.le_of_ble_eq_true rfl) (x_worst hC hV (sb _) (sb _)) (fun r1 σ1 hc1 => ?_)
  obtain ⟨A1, hs1, hF1, hC1⟩ := hc1
  refine q_aload_n (pc := 903) dL_law_903 rfl ?_
  refine q_aload_n (pc := 904) dL_law_904 rfl ?_
  refine q_iload_n (pc := 905) dL_law_905 rfl ?_
  refine q_iconst (pc := 906) dL_law_906 ?_
  refine q_iadd (pc := 907) dL_law_907 ?_
  refine q_sald (pc := 908) dL_law_908 (by omega) (by omega) ?_
  refine q_aload_n (pc := 909) dL_law_909 rfl ?_
  refine q_iload_n (pc := 910) dL_law_910 rfl ?_
  refine q_iconst (pc := 911) dL_law_911 ?_
  refine q_iadd (pc := 912) dL_law_912 ?_
  refine q_sald (pc := 913) dL_law_913 (by omega) (by omega) ?_
  refine q_V2i (pc := 914) dL_law_914 vL_121 rfl rfl (Nat.le_of_ble_eq_true rfl) (Nat.le_of_ble_eq_true rfl) (m_worst (hM.out hF1) hV (sb _) (sb _)) (fun r2 σ2 hc2 => ?_)
  obtain ⟨A2, hs2, hF2, hM2⟩ := hc2
  have he := hs1.symm.trans hs2
  obtain ⟨rfl, rfl⟩ := Prod.mk.inj he
  refine q_eqs (pc := 917) (tgt := 1382) dL_law_917 (by decide) ?_
  exact kk σ2 A1 (hC1.out hF2) hM2 (av_q hs1 (hV))
theorem l_who {i : Int} (hC : CR σ A) (hM : MR σ A) (hV : AV A) (hi : 0 ≤ i ∧ i + 6 ≤ G.2.2.2.2.1) (hL : G.2.2.2.2.1 ≤ 384) (kk : ∀ σ' A', CR σ' A' → MR σ' A' → AV A' → qE G mL_law (d + 15) 1382 [(3, vi i), (2, vr 82), (1, vr 0), (0, vr 96)] [] σ' Q) : qE G mL_law (d + 15) 922 [(3, vi i), (2, vr 82), (1, vr 0), (0, vr 96)] [] σ Q := by
  refine q_aload_n (pc := 922) dL_law_922 rfl ?_
  refine q_aload_n (pc := 923) dL_law_923 rfl ?_
  refine q_iload_n (pc := 924) dL_law_924 rfl ?_
  refine q_iconst (pc := 925) dL_law_925 ?_
  refine q_iadd (pc := 926) dL_law_926 ?_
  refine q_sald (pc := 927) dL_law_927 (by omega) (by omega) ?_
  refine q_aload_n (pc := 928) dL_law_928 rfl ?_
  refine q_iload_n (pc := 929) dL_law_929 rfl ?_
  refine q_iconst (pc := 930) dL_law_930 ?_
  refine q_iadd (pc := 931) dL_law_931 ?_
  refine q_sald (pc := 932) dL_law_932 (by omega) (by omega) ?_
  refine q_aload_n (pc := 933) dL_law_933 rfl ?_
  refine q_iload_n (pc := 934) dL_law_934 rfl ?_
  refine q_iconst (pc := 935) dL_law_935 ?_
  refine q_iadd (pc := 936) dL_law_936 ?_
  refine q_sald (pc := 937) dL_law_937 (by omega) (by omega) ?_
  refine q_aload_n (pc := 938) dL_law_938 rfl ?_
  refine q_iload_n (pc := 939) dL_law_939 rfl ?_
  refine q_iconst (pc := 940) dL_law_940 ?_
  refine q_iadd (pc := 941) dL_law_941 ?_
  refine q_sald (pc := 942) dL_law_942 (by omega) (by omega) ?_
  refine q_aload_n (pc := 943) dL_law_943 rfl ?_
  refine q_iload_n (pc := 944) dL_law_944 rfl ?_
  refine q_iconst (pc := 945) dL_law_945 ?_
  refine q_iadd (pc := 946) dL_law_946 ?_
  refine q_sald (pc := 947) dL_law_947 (by omega) (by omega) ?_
  refine q_V5i (pc := 948) dL_law_948 vL_122 rfl rfl (Nat.le_of_ble_eq_true rfl) (Nat.le_of_ble_eq_true rfl) (x_who hC hV (sb _) (sb _) (sb _) (sb _) (sb _)) (fun r1 σ1 hc1 => ?_)
  obtain ⟨A1, hs1, hF1, hC1⟩ := hc1
  refine q_aload_n (pc := 951) dL_law_951 rfl ?_
  refine q_aload_n (pc := 952) dL_law_952 rfl ?_
  refine q_iload_n (pc := 953) dL_law_953 rfl ?_
  refine q_iconst (pc := 954) dL_law_954 ?_
  refine q_iadd (pc := 955) dL_law_955 ?_
  refine q_sald (pc := 956) dL_law_956 (by omega) (by omega) ?_
  refine q_aload_n (pc := 957) dL_law_957 rfl ?_
  refine q_iload_n (pc := 958) dL_law_958 rfl ?_
  refine q_iconst (pc := 959) dL_law_959 ?_
  refine q_iadd (pc := 960) dL_law_960 ?_
  refine q_sald (pc := 961) dL_law_961 (by omega) (by omega) ?_
  refine q_aload_n (pc := 962) dL_law_962 rfl ?_
  refine q_iload_n (pc := 963) dL_law_963 rfl ?_
  refine q_iconst (pc := 964) dL_law_964 ?_
  refine q_iadd (pc := 965) dL_law_965 ?_
  refine q_sald (pc := 966) dL_law_966 (by omega) (by omega) ?_
  refine q_aload_n (pc := 967) dL_law_967 rfl ?_
  refine q_iload_n (pc := 968) dL_law_968 rfl ?_
  refine q_iconst (pc := 969) dL_law_969 ?_
  refine q_iadd (pc := 970) dL_law_970 ?_
  refine q_sald (pc := 971) dL_law_971 (by omega) (by omega) ?_
  refine q_aload_n (pc := 972) dL_law_972 rfl ?_
  refine q_iload_n (pc := 973) dL_law_973 rfl ?_
  refine q_iconst (pc := 974) dL_law_974 ?_
  refine q_iadd (pc := 975) dL_law_975 ?_
  refine q_sald (pc := 976) dL_law_976 (by omega) (by omega) ?_
  refine q_V5i (pc := 977) dL_law_977 vL_125 rfl rfl (Nat.le_of_ble_eq_true rfl) (Nat.le_of_ble_eq_true rfl) (m_who (hM.out hF1) hV (sb _) (sb _) (sb _) (sb _) (sb _)) (fun r2 σ2 hc2 => ?_)
  obtain ⟨A2, hs2, hF2, hM2⟩ := hc2
  have he := hs1.symm.trans hs2
  obtain ⟨rfl, rfl⟩ := Prod.mk.inj he
  refine q_eqs (pc := 980) (tgt := 1382) dL_law_980 (by decide) ?_
  exact kk σ2 A1 (hC1.out hF2) hM2 (av_q hs1 (av_fits hV _ _ _ _ _ _ _ _))
theorem l_feet {i : Int} (hC : CR σ A) (hM : MR σ A) (hV : AV A) (hi : 0 ≤ i ∧ i + 6 ≤ G.2.2.2.2.1) (hL : G.2.2.2.2.1 ≤ 384) (kk : ∀ σ' A', CR σ' A' → MR σ' A' → AV A' → qE G mL_law (d + 15) 1382 [(3, vi i), (2, vr 82), (1, vr 0), (0, vr 96)] [] σ' Q) : qE G mL_law (d + 15) 985 [(3, vi i), (2, vr 82), (1, vr 0), (0, vr 96)] [] σ Q := by
  refine q_aload_n (pc := 985) dL_law_985 rfl ?_
  refine q_aload_n (pc := 986) dL_law_986 rfl ?_
  refine q_iload_n (pc := 987) dL_law_987 rfl ?_
  refine q_iconst (pc := 988) dL_law_988 ?_
  refine q_iadd (pc := 989) dL_law_989 ?_
  refine q_sald (pc := 990) dL_law_990 (by omega) (by omega) ?_
  refine q_aload_n (pc := 991) dL_law_991 rfl ?_
  refine q_iload_n (pc := 992) dL_law_992 rfl ?_
  refine q_iconst (pc := 993) dL_law_993 ?_
  refine q_iadd (pc := 994) dL_law_994 ?_
  refine q_sald (pc := 995) dL_law_995 (by omega) (by omega) ?_
  refine q_aload_n (pc := 996) dL_law_996 rfl ?_
  refine q_iload_n (pc := 997) dL_law_997 rfl ?_
  refine q_iconst (pc := 998) dL_law_998 ?_
  refine q_iadd (pc := 999) dL_law_999 ?_
  refine q_sald (pc := 1000) dL_law_1000 (by omega) (by omega) ?_
  refine q_aload_n (pc := 1001) dL_law_1001 rfl ?_
  refine q_iload_n (pc := 1002) dL_law_1002 rfl ?_
  refine q_iconst (pc := 1003) dL_law_1003 ?_
  refine q_iadd (pc := 1004) dL_law_1004 ?_
  refine q_sald (pc := 1005) dL_law_1005 (by omega) (by omega) ?_
  refine q_aload_n (pc := 1006) dL_law_1006 rfl ?_
  refine q_iload_n (pc := 1007) dL_law_1007 rfl ?_
  refine q_iconst (pc := 1008) dL_law_1008 ?_
  refine q_iadd (pc := 1009) dL_law_1009 ?_
  refine q_sald (pc := 1010) dL_law_1010 (by omega) (by omega) ?_
  refine q_V5i (pc := 1011) dL_law_1011 vL_126 rfl rfl (Nat.le_of_ble_eq_true rfl) (Nat.le_of_ble_eq_true rfl) (x_feet hC hV (sb _) (sb _) (sb _) (sb _) (sb _)) (fun r1 σ1 hc1 => ?_)
  obtain ⟨A1, hs1, hF1, hC1⟩ := hc1
  refine q_aload_n (pc := 1014) dL_law_1014 rfl ?_
  refine q_aload_n (pc := 1015) dL_law_1015 rfl ?_
  refine q_iload_n (pc := 1016) dL_law_1016 rfl ?_
  refine q_iconst (pc := 1017) dL_law_1017 ?_
  refine q_iadd (pc := 1018) dL_law_1018 ?_
  refine q_sald (pc := 1019) dL_law_1019 (by omega) (by omega) ?_
  refine q_aload_n (pc := 1020) dL_law_1020 rfl ?_
  refine q_iload_n (pc := 1021) dL_law_1021 rfl ?_
  refine q_iconst (pc := 1022) dL_law_1022 ?_
  refine q_iadd (pc := 1023) dL_law_1023 ?_
  refine q_sald (pc := 1024) dL_law_1024 (by omega) (by omega) ?_
  refine q_aload_n (pc := 1025) dL_law_1025 rfl ?_
  refine q_iload_n (pc := 1026) dL_law_1026 rfl ?_
  refine q_iconst (pc := 1027) dL_law_1027 ?_
  refine q_iadd (pc := 1028) dL_law_1028 ?_
  refine q_sald (pc := 1029) dL_law_1029 (by omega) (by omega) ?_
  refine q_aload_n (pc := 1030) dL_law_1030 rfl ?_
  refine q_iload_n (pc := 1031) dL_law_1031 rfl ?_
  refine q_iconst (pc := 1032) dL_law_1032 ?_
  refine q_iadd (pc := 1033) dL_law_1033 ?_
  refine q_sald (pc := 1034) dL_law_1034 (by omega) (by omega) ?_
  refine q_aload_n (pc := 1035) dL_law_1035 rfl ?_
  refine q_iload_n (pc := 1036) dL_law_1036 rfl ?_
  refine q_iconst (pc := 1037) dL_law_1037 ?_
  refine q_iadd (pc := 1038) dL_law_1038 ?_
  refine q_sald (pc := 1039) dL_law_1039 (by omega) (by omega) ?_
  refine q_V5i (pc := 1040) dL_law_1040 vL_129 rfl rfl (Nat.le_of_ble_eq_true rfl) (Nat.le_of_ble_eq_true rfl) (m_feet (hM.out hF1) hV (sb _) (sb _) (sb _) (sb _) (sb _)) (fun r2 σ2 hc2 => ?_)
  obtain ⟨A2, hs2, hF2, hM2⟩ := hc2
  have he := hs1.symm.trans hs2
  obtain ⟨rfl, rfl⟩ := Prod.mk.inj he
  refine q_eqs (pc := 1043) (tgt := 1382) dL_law_1043 (by decide) ?_
  exact kk σ2 A1 (hC1.out hF2) hM2 (av_q hs1 (av_fits hV _ _ _ _ _ _ _ _))
theorem l_amounts {i : Int} (hC : CR σ A) (hM : MR σ A) (hV : AV A) (hi : 0 ≤ i ∧ i + 6 ≤ G.2.2.2.2.1) (hL : G.2.2.2.2.1 ≤ 384) (kk : ∀ σ' A', CR σ' A' → MR σ' A' → AV A' → qE G mL_law (d + 15) 1382 [(3, vi i), (2, vr 82), (1, vr 0), (0, vr 96)] [] σ' Q) : qE G mL_law (d + 15) 1048 [(3, vi i), (2, vr 82), (1, vr 0), (0, vr 96)] [] σ Q := by
  refine q_aload_n (pc := 1048) dL_law_1048 rfl ?_
  refine q_aload_n (pc := 1049) dL_law_1049 rfl ?_
  refine q_iload_n (pc := 1050) dL_law_1050 rfl ?_
  refine q_iconst (pc := 1051) dL_law_1051 ?_
  refine q_iadd (pc := 1052) dL_law_1052 ?_
  refine q_sald (pc := 1053) dL_law_1053 (by omega) (by omega) ?_
  refine q_aload_n (pc := 1054) dL_law_1054 rfl ?_
  refine q_iload_n (pc := 1055) dL_law_1055 rfl ?_
  refine q_iconst (pc := 1056) dL_law_1056 ?_
  refine q_iadd (pc := 1057) dL_law_1057 ?_
  refine q_sald (pc := 1058) dL_law_1058 (by omega) (by omega) ?_
  refine q_aload_n (pc := 1059) dL_law_1059 rfl ?_
  refine q_iload_n (pc := 1060) dL_law_1060 rfl ?_
  refine q_iconst (pc := 1061) dL_law_1061 ?_
  refine q_iadd (pc := 1062) dL_law_1062 ?_
  refine q_sald (pc := 1063) dL_law_1063 (by omega) (by omega) ?_
  refine q_aload_n (pc := 1064) dL_law_1064 rfl ?_
  refine q_iload_n (pc := 1065) dL_law_1065 rfl ?_
  refine q_iconst (pc := 1066) dL_law_1066 ?_
  refine q_iadd (pc := 1067) dL_law_1067 ?_
  refine q_sald (pc := 1068) dL_law_1068 (by omega) (by omega) ?_
  refine q_aload_n (pc := 1069) dL_law_1069 rfl ?_
  refine q_iload_n (pc := 1070) dL_law_1070 rfl ?_
  refine q_iconst (pc := 1071) dL_law_1071 ?_
  refine q_iadd (pc := 1072) dL_law_1072 ?_
  refine q_sald (pc := 1073) dL_law_1073 (by omega) (by omega) ?_
  refine q_V5i (pc := 1074) dL_law_1074 vL_130 rfl rfl (Nat.le_of_ble_eq_true rfl) (Nat.le_of_ble_eq_true rfl) (x_amounts hC hV (sb _) (sb _) (sb _) (sb _) (sb _)) (fun r1 σ1 hc1 => ?_)
  obtain ⟨A1, hs1, hF1, hC1⟩ := hc1
  refine q_aload_n (pc := 1077) dL_law_1077 rfl ?_
  refine q_aload_n (pc := 1078) dL_law_1078 rfl ?_
  refine q_iload_n (pc := 1079) dL_law_1079 rfl ?_
  refine q_iconst (pc := 1080) dL_law_1080 ?_
  refine q_iadd (pc := 1081) dL_law_1081 ?_
  refine q_sald (pc := 1082) dL_law_1082 (by omega) (by omega) ?_
  refine q_aload_n (pc := 1083) dL_law_1083 rfl ?_
  refine q_iload_n (pc := 1084) dL_law_1084 rfl ?_
  refine q_iconst (pc := 1085) dL_law_1085 ?_
  refine q_iadd (pc := 1086) dL_law_1086 ?_
  refine q_sald (pc := 1087) dL_law_1087 (by omega) (by omega) ?_
  refine q_aload_n (pc := 1088) dL_law_1088 rfl ?_
  refine q_iload_n (pc := 1089) dL_law_1089 rfl ?_
  refine q_iconst (pc := 1090) dL_law_1090 ?_
  refine q_iadd (pc := 1091) dL_law_1091 ?_
  refine q_sald (pc := 1092) dL_law_1092 (by omega) (by omega) ?_
  refine q_aload_n (pc := 1093) dL_law_1093 rfl ?_
  refine q_iload_n (pc := 1094) dL_law_1094 rfl ?_
  refine q_iconst (pc := 1095) dL_law_1095 ?_
  refine q_iadd (pc := 1096) dL_law_1096 ?_
  refine q_sald (pc := 1097) dL_law_1097 (by omega) (by omega) ?_
  refine q_aload_n (pc := 1098) dL_law_1098 rfl ?_
  refine q_iload_n (pc := 1099) dL_law_1099 rfl ?_
  refine q_iconst (pc := 1100) dL_law_1100 ?_
  refine q_iadd (pc := 1101) dL_law_1101 ?_
  refine q_sald (pc := 1102) dL_law_1102 (by omega) (by omega) ?_
  refine q_V5i (pc := 1103) dL_law_1103 vL_133 rfl rfl (Nat.le_of_ble_eq_true rfl) (Nat.le_of_ble_eq_true rfl) (m_amounts (hM.out hF1) hV (sb _) (sb _) (sb _) (sb _) (sb _)) (fun r2 σ2 hc2 => ?_)
  obtain ⟨A2, hs2, hF2, hM2⟩ := hc2
  have he := hs1.symm.trans hs2
  obtain ⟨rfl, rfl⟩ := Prod.mk.inj he
  refine q_eqs (pc := 1106) (tgt := 1382) dL_law_1106 (by decide) ?_
  exact kk σ2 A1 (hC1.out hF2) hM2 (av_q hs1 (av_fits hV _ _ _ _ _ _ _ _))
theorem l_wrong {i : Int} (hC : CR σ A) (hM : MR σ A) (hV : AV A) (hi : 0 ≤ i ∧ i + 6 ≤ G.2.2.2.2.1) (hL : G.2.2.2.2.1 ≤ 384) (kk : ∀ σ' A', CR σ' A' → MR σ' A' → AV A' → qE G mL_law (d + 15) 1382 [(3, vi i), (2, vr 82), (1, vr 0), (0, vr 96)] [] σ' Q) : qE G mL_law (d + 15) 1111 [(3, vi i), (2, vr 82), (1, vr 0), (0, vr 96)] [] σ Q := by
  refine q_aload_n (pc := 1111) dL_law_1111 rfl ?_
  refine q_aload_n (pc := 1112) dL_law_1112 rfl ?_
  refine q_iload_n (pc := 1113) dL_law_1113 rfl ?_
  refine q_iconst (pc := 1114) dL_law_1114 ?_
  refine q_iadd (pc := 1115) dL_law_1115 ?_
  refine q_sald (pc := 1116) dL_law_1116 (by omega) (by omega) ?_
  refine q_aload_n (pc := 1117) dL_law_1117 rfl ?_
  refine q_iload_n (pc := 1118) dL_law_1118 rfl ?_
  refine q_iconst (pc := 1119) dL_law_1119 ?_
  refine q_iadd (pc := 1120) dL_law_1120 ?_
  refine q_sald (pc := 1121) dL_law_1121 (by omega) (by omega) ?_
  refine q_V2l (pc := 1122) dL_law_1122 vL_134 rfl rfl (Nat.le_of_ble_eq_true rfl) (Nat.le_of_ble_eq_true rfl) (x_wrong hC hV (sb _) (sb _)) (fun r1 σ1 hc1 => ?_)
  obtain ⟨A1, hs1, hF1, hC1⟩ := hc1
  refine q_aload_n (pc := 1125) dL_law_1125 rfl ?_
  refine q_aload_n (pc := 1126) dL_law_1126 rfl ?_
  refine q_iload_n (pc := 1127) dL_law_1127 rfl ?_
  refine q_iconst (pc := 1128) dL_law_1128 ?_
  refine q_iadd (pc := 1129) dL_law_1129 ?_
  refine q_sald (pc := 1130) dL_law_1130 (by omega) (by omega) ?_
  refine q_aload_n (pc := 1131) dL_law_1131 rfl ?_
  refine q_iload_n (pc := 1132) dL_law_1132 rfl ?_
  refine q_iconst (pc := 1133) dL_law_1133 ?_
  refine q_iadd (pc := 1134) dL_law_1134 ?_
  refine q_sald (pc := 1135) dL_law_1135 (by omega) (by omega) ?_
  refine q_V2l (pc := 1136) dL_law_1136 vL_138 rfl rfl (Nat.le_of_ble_eq_true rfl) (Nat.le_of_ble_eq_true rfl) (m_wrong (hM.out hF1) hV (sb _) (sb _)) (fun r2 σ2 hc2 => ?_)
  obtain ⟨A2, hs2, hF2, hM2⟩ := hc2
  have he := hs1.symm.trans hs2
  obtain ⟨rfl, rfl⟩ := Prod.mk.inj he
  refine q_lcs (pc := 1139) dL_law_1139 ?_
  refine q_ifeq (pc := 1140) (tgt := 1382) dL_law_1140 (by decide) (by omega) (fun h1140 => ?_) (fun h => absurd h (by omega))
  exact kk σ2 A1 (hC1.out hF2) hM2 (av_q hs1 (hV))
theorem l_drawn {i : Int} (hC : CR σ A) (hM : MR σ A) (hV : AV A) (hi : 0 ≤ i ∧ i + 6 ≤ G.2.2.2.2.1) (hL : G.2.2.2.2.1 ≤ 384) (kk : ∀ σ' A', CR σ' A' → MR σ' A' → AV A' → qE G mL_law (d + 15) 1382 [(3, vi i), (2, vr 82), (1, vr 0), (0, vr 96)] [] σ' Q) : qE G mL_law (d + 15) 1145 [(3, vi i), (2, vr 82), (1, vr 0), (0, vr 96)] [] σ Q := by
  refine q_aload_n (pc := 1145) dL_law_1145 rfl ?_
  refine q_aload_n (pc := 1146) dL_law_1146 rfl ?_
  refine q_iload_n (pc := 1147) dL_law_1147 rfl ?_
  refine q_iconst (pc := 1148) dL_law_1148 ?_
  refine q_iadd (pc := 1149) dL_law_1149 ?_
  refine q_sald (pc := 1150) dL_law_1150 (by omega) (by omega) ?_
  refine q_aload_n (pc := 1151) dL_law_1151 rfl ?_
  refine q_iload_n (pc := 1152) dL_law_1152 rfl ?_
  refine q_iconst (pc := 1153) dL_law_1153 ?_
  refine q_iadd (pc := 1154) dL_law_1154 ?_
  refine q_sald (pc := 1155) dL_law_1155 (by omega) (by omega) ?_
  refine q_aload_n (pc := 1156) dL_law_1156 rfl ?_
  refine q_iload_n (pc := 1157) dL_law_1157 rfl ?_
  refine q_iconst (pc := 1158) dL_law_1158 ?_
  refine q_iadd (pc := 1159) dL_law_1159 ?_
  refine q_sald (pc := 1160) dL_law_1160 (by omega) (by omega) ?_
  refine q_V3i (pc := 1161) dL_law_1161 vL_139 rfl rfl (Nat.le_of_ble_eq_true rfl) (Nat.le_of_ble_eq_true rfl) (x_drawn hC hV (sb _) (sb _) (sb _)) (fun r1 σ1 hc1 => ?_)
  obtain ⟨A1, hs1, hF1, hC1⟩ := hc1
  refine q_aload_n (pc := 1164) dL_law_1164 rfl ?_
  refine q_aload_n (pc := 1165) dL_law_1165 rfl ?_
  refine q_iload_n (pc := 1166) dL_law_1166 rfl ?_
  refine q_iconst (pc := 1167) dL_law_1167 ?_
  refine q_iadd (pc := 1168) dL_law_1168 ?_
  refine q_sald (pc := 1169) dL_law_1169 (by omega) (by omega) ?_
  refine q_aload_n (pc := 1170) dL_law_1170 rfl ?_
  refine q_iload_n (pc := 1171) dL_law_1171 rfl ?_
  refine q_iconst (pc := 1172) dL_law_1172 ?_
  refine q_iadd (pc := 1173) dL_law_1173 ?_
  refine q_sald (pc := 1174) dL_law_1174 (by omega) (by omega) ?_
  refine q_aload_n (pc := 1175) dL_law_1175 rfl ?_
  refine q_iload_n (pc := 1176) dL_law_1176 rfl ?_
  refine q_iconst (pc := 1177) dL_law_1177 ?_
  refine q_iadd (pc := 1178) dL_law_1178 ?_
  refine q_sald (pc := 1179) dL_law_1179 (by omega) (by omega) ?_
  refine q_V3i (pc := 1180) dL_law_1180 vL_142 rfl rfl (Nat.le_of_ble_eq_true rfl) (Nat.le_of_ble_eq_true rfl) (m_drawn (hM.out hF1) hV (sb _) (sb _) (sb _)) (fun r2 σ2 hc2 => ?_)
  obtain ⟨A2, hs2, hF2, hM2⟩ := hc2
  have he := hs1.symm.trans hs2
  obtain ⟨rfl, rfl⟩ := Prod.mk.inj he
  refine q_eqs (pc := 1183) (tgt := 1382) dL_law_1183 (by decide) ?_
  exact kk σ2 A1 (hC1.out hF2) hM2 (av_q hs1 (hV))
theorem l_image {i : Int} (hC : CR σ A) (hM : MR σ A) (hV : AV A) (hi : 0 ≤ i ∧ i + 6 ≤ G.2.2.2.2.1) (hL : G.2.2.2.2.1 ≤ 384) (kk : ∀ σ' A', CR σ' A' → MR σ' A' → AV A' → qE G mL_law (d + 15) 1382 [(3, vi i), (2, vr 82), (1, vr 0), (0, vr 96)] [] σ' Q) : qE G mL_law (d + 15) 1188 [(3, vi i), (2, vr 82), (1, vr 0), (0, vr 96)] [] σ Q := by
  refine q_aload_n (pc := 1188) dL_law_1188 rfl ?_
  refine q_aload_n (pc := 1189) dL_law_1189 rfl ?_
  refine q_iload_n (pc := 1190) dL_law_1190 rfl ?_
  refine q_iconst (pc := 1191) dL_law_1191 ?_
  refine q_iadd (pc := 1192) dL_law_1192 ?_
  refine q_sald (pc := 1193) dL_law_1193 (by omega) (by omega) ?_
  refine q_V1i (pc := 1194) dL_law_1194 vL_143 rfl rfl (Nat.le_of_ble_eq_true rfl) (Nat.le_of_ble_eq_true rfl) (x_image hC hV (sb _)) (fun r1 σ1 hc1 => ?_)
  obtain ⟨A1, hs1, hF1, hC1⟩ := hc1
  refine q_aload_n (pc := 1197) dL_law_1197 rfl ?_
  refine q_aload_n (pc := 1198) dL_law_1198 rfl ?_
  refine q_iload_n (pc := 1199) dL_law_1199 rfl ?_
  refine q_iconst (pc := 1200) dL_law_1200 ?_
  refine q_iadd (pc := 1201) dL_law_1201 ?_
  refine q_sald (pc := 1202) dL_law_1202 (by omega) (by omega) ?_
  refine q_V1i (pc := 1203) dL_law_1203 vL_146 rfl rfl (Nat.le_of_ble_eq_true rfl) (Nat.le_of_ble_eq_true rfl) (m_image (hM.out hF1) hV (sb _)) (fun r2 σ2 hc2 => ?_)
  obtain ⟨A2, hs2, hF2, hM2⟩ := hc2
  have he := hs1.symm.trans hs2
  obtain ⟨rfl, rfl⟩ := Prod.mk.inj he
  refine q_eqs (pc := 1206) (tgt := 1382) dL_law_1206 (by decide) ?_
  exact kk σ2 A1 (hC1.out hF2) hM2 (av_q hs1 (av_image hV _))
theorem l_restore {i : Int} (hC : CR σ A) (hM : MR σ A) (hV : AV A) (hi : 0 ≤ i ∧ i + 6 ≤ G.2.2.2.2.1) (hL : G.2.2.2.2.1 ≤ 384) (kk : ∀ σ' A', CR σ' A' → MR σ' A' → AV A' → qE G mL_law (d + 15) 1382 [(3, vi i), (2, vr 82), (1, vr 0), (0, vr 96)] [] σ' Q) : qE G mL_law (d + 15) 1211 [(3, vi i), (2, vr 82), (1, vr 0), (0, vr 96)] [] σ Q := by
  refine q_aload_n (pc := 1211) dL_law_1211 rfl ?_
  refine q_aload_n (pc := 1212) dL_law_1212 rfl ?_
  refine q_iload_n (pc := 1213) dL_law_1213 rfl ?_
  refine q_iconst (pc := 1214) dL_law_1214 ?_
  refine q_iadd (pc := 1215) dL_law_1215 ?_
  refine q_sald (pc := 1216) dL_law_1216 (by omega) (by omega) ?_
  refine q_V1i (pc := 1217) dL_law_1217 vL_147 rfl rfl (Nat.le_of_ble_eq_true rfl) (Nat.le_of_ble_eq_true rfl) (x_restore hC hV (sb _)) (fun r1 σ1 hc1 => ?_)
  obtain ⟨A1, hs1, hF1, hC1⟩ := hc1
  refine q_aload_n (pc := 1220) dL_law_1220 rfl ?_
  refine q_aload_n (pc := 1221) dL_law_1221 rfl ?_
  refine q_iload_n (pc := 1222) dL_law_1222 rfl ?_
  refine q_iconst (pc := 1223) dL_law_1223 ?_
  refine q_iadd (pc := 1224) dL_law_1224 ?_
  refine q_sald (pc := 1225) dL_law_1225 (by omega) (by omega) ?_
  refine q_V1i (pc := 1226) dL_law_1226 vL_150 rfl rfl (Nat.le_of_ble_eq_true rfl) (Nat.le_of_ble_eq_true rfl) (m_restore (hM.out hF1) hV (sb _)) (fun r2 σ2 hc2 => ?_)
  obtain ⟨A2, hs2, hF2, hM2⟩ := hc2
  have he := hs1.symm.trans hs2
  obtain ⟨rfl, rfl⟩ := Prod.mk.inj he
  refine q_eqs (pc := 1229) (tgt := 1382) dL_law_1229 (by decide) ?_
  exact kk σ2 A1 (hC1.out hF2) hM2 (av_q hs1 (av_restore hV _))
theorem l_kind {i : Int} (hC : CR σ A) (hM : MR σ A) (hV : AV A) (hi : 0 ≤ i ∧ i + 6 ≤ G.2.2.2.2.1) (hL : G.2.2.2.2.1 ≤ 384) (kk : ∀ σ' A', CR σ' A' → MR σ' A' → AV A' → qE G mL_law (d + 15) 1382 [(3, vi i), (2, vr 82), (1, vr 0), (0, vr 96)] [] σ' Q) : qE G mL_law (d + 15) 1234 [(3, vi i), (2, vr 82), (1, vr 0), (0, vr 96)] [] σ Q := by
  refine q_aload_n (pc := 1234) dL_law_1234 rfl ?_
  refine q_aload_n (pc := 1235) dL_law_1235 rfl ?_
  refine q_iload_n (pc := 1236) dL_law_1236 rfl ?_
  refine q_iconst (pc := 1237) dL_law_1237 ?_
  refine q_iadd (pc := 1238) dL_law_1238 ?_
  refine q_sald (pc := 1239) dL_law_1239 (by omega) (by omega) ?_
  refine q_V1i (pc := 1240) dL_law_1240 vL_151 rfl rfl (Nat.le_of_ble_eq_true rfl) (Nat.le_of_ble_eq_true rfl) (x_kind hC hV (sb _)) (fun r1 σ1 hc1 => ?_)
  obtain ⟨A1, hs1, hF1, hC1⟩ := hc1
  refine q_aload_n (pc := 1243) dL_law_1243 rfl ?_
  refine q_aload_n (pc := 1244) dL_law_1244 rfl ?_
  refine q_iload_n (pc := 1245) dL_law_1245 rfl ?_
  refine q_iconst (pc := 1246) dL_law_1246 ?_
  refine q_iadd (pc := 1247) dL_law_1247 ?_
  refine q_sald (pc := 1248) dL_law_1248 (by omega) (by omega) ?_
  refine q_V1i (pc := 1249) dL_law_1249 vL_154 rfl rfl (Nat.le_of_ble_eq_true rfl) (Nat.le_of_ble_eq_true rfl) (m_kind (hM.out hF1) hV (sb _)) (fun r2 σ2 hc2 => ?_)
  obtain ⟨A2, hs2, hF2, hM2⟩ := hc2
  have he := hs1.symm.trans hs2
  obtain ⟨rfl, rfl⟩ := Prod.mk.inj he
  refine q_eqs (pc := 1252) (tgt := 1382) dL_law_1252 (by decide) ?_
  exact kk σ2 A1 (hC1.out hF2) hM2 (av_q hs1 (hV))
theorem l_as {i : Int} (hC : CR σ A) (hM : MR σ A) (hV : AV A) (hi : 0 ≤ i ∧ i + 6 ≤ G.2.2.2.2.1) (hL : G.2.2.2.2.1 ≤ 384) (kk : ∀ σ' A', CR σ' A' → MR σ' A' → AV A' → qE G mL_law (d + 15) 1382 [(3, vi i), (2, vr 82), (1, vr 0), (0, vr 96)] [] σ' Q) : qE G mL_law (d + 15) 1257 [(3, vi i), (2, vr 82), (1, vr 0), (0, vr 96)] [] σ Q := by
  refine q_aload_n (pc := 1257) dL_law_1257 rfl ?_
  refine q_aload_n (pc := 1258) dL_law_1258 rfl ?_
  refine q_iload_n (pc := 1259) dL_law_1259 rfl ?_
  refine q_iconst (pc := 1260) dL_law_1260 ?_
  refine q_iadd (pc := 1261) dL_law_1261 ?_
  refine q_sald (pc := 1262) dL_law_1262 (by omega) (by omega) ?_
  refine q_aload_n (pc := 1263) dL_law_1263 rfl ?_
  refine q_iload_n (pc := 1264) dL_law_1264 rfl ?_
  refine q_iconst (pc := 1265) dL_law_1265 ?_
  refine q_iadd (pc := 1266) dL_law_1266 ?_
  refine q_sald (pc := 1267) dL_law_1267 (by omega) (by omega) ?_
  refine q_V2i (pc := 1268) dL_law_1268 vL_155 rfl rfl (Nat.le_of_ble_eq_true rfl) (Nat.le_of_ble_eq_true rfl) (x_as hC hV (sb _) (sb _)) (fun r1 σ1 hc1 => ?_)
  obtain ⟨A1, hs1, hF1, hC1⟩ := hc1
  refine q_aload_n (pc := 1271) dL_law_1271 rfl ?_
  refine q_aload_n (pc := 1272) dL_law_1272 rfl ?_
  refine q_iload_n (pc := 1273) dL_law_1273 rfl ?_
  refine q_iconst (pc := 1274) dL_law_1274 ?_
  refine q_iadd (pc := 1275) dL_law_1275 ?_
  refine q_sald (pc := 1276) dL_law_1276 (by omega) (by omega) ?_
  refine q_aload_n (pc := 1277) dL_law_1277 rfl ?_
  refine q_iload_n (pc := 1278) dL_law_1278 rfl ?_
  refine q_iconst (pc := 1279) dL_law_1279 ?_
  refine q_iadd (pc := 1280) dL_law_1280 ?_
  refine q_sald (pc := 1281) dL_law_1281 (by omega) (by omega) ?_
  refine q_V2i (pc := 1282) dL_law_1282 vL_158 rfl rfl (Nat.le_of_ble_eq_true rfl) (Nat.le_of_ble_eq_true rfl) (m_as (hM.out hF1) hV (sb _) (sb _)) (fun r2 σ2 hc2 => ?_)
  obtain ⟨A2, hs2, hF2, hM2⟩ := hc2
  have he := hs1.symm.trans hs2
  obtain ⟨rfl, rfl⟩ := Prod.mk.inj he
  refine q_eqs (pc := 1285) (tgt := 1382) dL_law_1285 (by decide) ?_
  exact kk σ2 A1 (hC1.out hF2) hM2 (av_q hs1 (av_as hV _ _))
theorem l_ask {i : Int} (hC : CR σ A) (hM : MR σ A) (hV : AV A) (hi : 0 ≤ i ∧ i + 6 ≤ G.2.2.2.2.1) (hL : G.2.2.2.2.1 ≤ 384) (kk : ∀ σ' A', CR σ' A' → MR σ' A' → AV A' → qE G mL_law (d + 15) 1382 [(3, vi i), (2, vr 82), (1, vr 0), (0, vr 96)] [] σ' Q) : qE G mL_law (d + 15) 1290 [(3, vi i), (2, vr 82), (1, vr 0), (0, vr 96)] [] σ Q := by
  refine q_aload_n (pc := 1290) dL_law_1290 rfl ?_
  refine q_aload_n (pc := 1291) dL_law_1291 rfl ?_
  refine q_iload_n (pc := 1292) dL_law_1292 rfl ?_
  refine q_iconst (pc := 1293) dL_law_1293 ?_
  refine q_iadd (pc := 1294) dL_law_1294 ?_
  refine q_sald (pc := 1295) dL_law_1295 (by omega) (by omega) ?_
  refine q_aload_n (pc := 1296) dL_law_1296 rfl ?_
  refine q_iload_n (pc := 1297) dL_law_1297 rfl ?_
  refine q_iconst (pc := 1298) dL_law_1298 ?_
  refine q_iadd (pc := 1299) dL_law_1299 ?_
  refine q_sald (pc := 1300) dL_law_1300 (by omega) (by omega) ?_
  refine q_V2i (pc := 1301) dL_law_1301 vL_159 rfl rfl (Nat.le_of_ble_eq_true rfl) (Nat.le_of_ble_eq_true rfl) (x_ask hC hV (sb _) (sb _)) (fun r1 σ1 hc1 => ?_)
  obtain ⟨A1, hs1, hF1, hC1⟩ := hc1
  refine q_aload_n (pc := 1304) dL_law_1304 rfl ?_
  refine q_aload_n (pc := 1305) dL_law_1305 rfl ?_
  refine q_iload_n (pc := 1306) dL_law_1306 rfl ?_
  refine q_iconst (pc := 1307) dL_law_1307 ?_
  refine q_iadd (pc := 1308) dL_law_1308 ?_
  refine q_sald (pc := 1309) dL_law_1309 (by omega) (by omega) ?_
  refine q_aload_n (pc := 1310) dL_law_1310 rfl ?_
  refine q_iload_n (pc := 1311) dL_law_1311 rfl ?_
  refine q_iconst (pc := 1312) dL_law_1312 ?_
  refine q_iadd (pc := 1313) dL_law_1313 ?_
  refine q_sald (pc := 1314) dL_law_1314 (by omega) (by omega) ?_
  refine q_V2i (pc := 1315) dL_law_1315 vL_162 rfl rfl (Nat.le_of_ble_eq_true rfl) (Nat.le_of_ble_eq_true rfl) (m_ask (hM.out hF1) hV (sb _) (sb _)) (fun r2 σ2 hc2 => ?_)
  obtain ⟨A2, hs2, hF2, hM2⟩ := hc2
  have he := hs1.symm.trans hs2
  obtain ⟨rfl, rfl⟩ := Prod.mk.inj he
  refine q_eqs (pc := 1318) (tgt := 1382) dL_law_1318 (by decide) ?_
  exact kk σ2 A1 (hC1.out hF2) hM2 (av_q hs1 (av_ask hV _ _))
theorem l_trace {i : Int} (hC : CR σ A) (hM : MR σ A) (hV : AV A) (hi : 0 ≤ i ∧ i + 6 ≤ G.2.2.2.2.1) (hL : G.2.2.2.2.1 ≤ 384) (kk : ∀ σ' A', CR σ' A' → MR σ' A' → AV A' → qE G mL_law (d + 15) 1382 [(3, vi i), (2, vr 82), (1, vr 0), (0, vr 96)] [] σ' Q) : qE G mL_law (d + 15) 1323 [(3, vi i), (2, vr 82), (1, vr 0), (0, vr 96)] [] σ Q := by
  refine q_aload_n (pc := 1323) dL_law_1323 rfl ?_
  refine q_aload_n (pc := 1324) dL_law_1324 rfl ?_
  refine q_iload_n (pc := 1325) dL_law_1325 rfl ?_
  refine q_iconst (pc := 1326) dL_law_1326 ?_
  refine q_iadd (pc := 1327) dL_law_1327 ?_
  refine q_sald (pc := 1328) dL_law_1328 (by omega) (by omega) ?_
  refine q_V1i (pc := 1329) dL_law_1329 vL_163 rfl rfl (Nat.le_of_ble_eq_true rfl) (Nat.le_of_ble_eq_true rfl) (x_trace hC hV (sb _)) (fun r1 σ1 hc1 => ?_)
  obtain ⟨A1, hs1, hF1, hC1⟩ := hc1
  refine q_aload_n (pc := 1332) dL_law_1332 rfl ?_
  refine q_aload_n (pc := 1333) dL_law_1333 rfl ?_
  refine q_iload_n (pc := 1334) dL_law_1334 rfl ?_
  refine q_iconst (pc := 1335) dL_law_1335 ?_
  refine q_iadd (pc := 1336) dL_law_1336 ?_
  refine q_sald (pc := 1337) dL_law_1337 (by omega) (by omega) ?_
  refine q_V1i (pc := 1338) dL_law_1338 vL_166 rfl rfl (Nat.le_of_ble_eq_true rfl) (Nat.le_of_ble_eq_true rfl) (m_trace (hM.out hF1) hV (sb _)) (fun r2 σ2 hc2 => ?_)
  obtain ⟨A2, hs2, hF2, hM2⟩ := hc2
  have he := hs1.symm.trans hs2
  obtain ⟨rfl, rfl⟩ := Prod.mk.inj he
  refine q_eqs (pc := 1341) (tgt := 1382) dL_law_1341 (by decide) ?_
  exact kk σ2 A1 (hC1.out hF2) hM2 (av_q hs1 (hV))
theorem l_count {i : Int} (hC : CR σ A) (hM : MR σ A) (hV : AV A) (hi : 0 ≤ i ∧ i + 6 ≤ G.2.2.2.2.1) (hL : G.2.2.2.2.1 ≤ 384) (kk : ∀ σ' A', CR σ' A' → MR σ' A' → AV A' → qE G mL_law (d + 15) 1382 [(3, vi i), (2, vr 82), (1, vr 0), (0, vr 96)] [] σ' Q) : qE G mL_law (d + 15) 1346 [(3, vi i), (2, vr 82), (1, vr 0), (0, vr 96)] [] σ Q := by
  refine q_aload_n (pc := 1346) dL_law_1346 rfl ?_
  refine q_aload_n (pc := 1347) dL_law_1347 rfl ?_
  refine q_iload_n (pc := 1348) dL_law_1348 rfl ?_
  refine q_iconst (pc := 1349) dL_law_1349 ?_
  refine q_iadd (pc := 1350) dL_law_1350 ?_
  refine q_sald (pc := 1351) dL_law_1351 (by omega) (by omega) ?_
  refine q_V1i (pc := 1352) dL_law_1352 vL_167 rfl rfl (Nat.le_of_ble_eq_true rfl) (Nat.le_of_ble_eq_true rfl) (x_count hC hV (sb _)) (fun r1 σ1 hc1 => ?_)
  obtain ⟨A1, hs1, hF1, hC1⟩ := hc1
  refine q_aload_n (pc := 1355) dL_law_1355 rfl ?_
  refine q_aload_n (pc := 1356) dL_law_1356 rfl ?_
  refine q_iload_n (pc := 1357) dL_law_1357 rfl ?_
  refine q_iconst (pc := 1358) dL_law_1358 ?_
  refine q_iadd (pc := 1359) dL_law_1359 ?_
  refine q_sald (pc := 1360) dL_law_1360 (by omega) (by omega) ?_
  refine q_V1i (pc := 1361) dL_law_1361 vL_170 rfl rfl (Nat.le_of_ble_eq_true rfl) (Nat.le_of_ble_eq_true rfl) (m_count (hM.out hF1) hV (sb _)) (fun r2 σ2 hc2 => ?_)
  obtain ⟨A2, hs2, hF2, hM2⟩ := hc2
  have he := hs1.symm.trans hs2
  obtain ⟨rfl, rfl⟩ := Prod.mk.inj he
  refine q_eqs (pc := 1364) (tgt := 1382) dL_law_1364 (by decide) ?_
  exact kk σ2 A1 (hC1.out hF2) hM2 (av_q hs1 (hV))
theorem l_status {i : Int} (hC : CR σ A) (hM : MR σ A) (hV : AV A) (hi : 0 ≤ i ∧ i + 6 ≤ G.2.2.2.2.1) (hL : G.2.2.2.2.1 ≤ 384) (kk : ∀ σ' A', CR σ' A' → MR σ' A' → AV A' → qE G mL_law (d + 15) 1382 [(3, vi i), (2, vr 82), (1, vr 0), (0, vr 96)] [] σ' Q) : qE G mL_law (d + 15) 1369 [(3, vi i), (2, vr 82), (1, vr 0), (0, vr 96)] [] σ Q := by
  refine q_aload_n (pc := 1369) dL_law_1369 rfl ?_
  refine q_V0i (pc := 1370) dL_law_1370 vL_171 rfl rfl (Nat.le_of_ble_eq_true rfl) (Nat.le_of_ble_eq_true rfl) (x_status hC) (fun r1 σ1 hc1 => ?_)
  obtain ⟨A1, hs1, hF1, hC1⟩ := hc1
  refine q_aload_n (pc := 1373) dL_law_1373 rfl ?_
  refine q_V0i (pc := 1374) dL_law_1374 vL_174 rfl rfl (Nat.le_of_ble_eq_true rfl) (Nat.le_of_ble_eq_true rfl) (m_status (hM.out hF1)) (fun r2 σ2 hc2 => ?_)
  obtain ⟨A2, hs2, hF2, hM2⟩ := hc2
  have he := hs1.symm.trans hs2
  obtain ⟨rfl, rfl⟩ := Prod.mk.inj he
  refine q_eqs (pc := 1377) (tgt := 1382) dL_law_1377 (by decide) ?_
  exact kk σ2 A1 (hC1.out hF2) hM2 (av_q hs1 (hV))
end LW
