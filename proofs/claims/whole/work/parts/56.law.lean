/-! the law: its script, its calls, its loop -/
def Sk (E : Ev) (b L : Nat) (xs : Nat → Int32) : Prop := match E with
  | (_, _, _, _, s, _, _, _, _, _, _, A, _, _, _) => va_X b L xs s s.heap ∧ b < s.heap.size ∧ ¬ A b
def xz (xs : Nat → Int32) (i : Int) : Int := (xs i.toNat).toInt
theorem xz_r (xs : Nat → Int32) (i : Int) : -2147483648 ≤ xz xs i ∧ xz xs i ≤ 2147483647 := by
  have h1 := Int32.toInt_lt (xs i.toNat)
  have h2 := Int32.le_toInt (xs i.toNat)
  unfold xz
  omega
theorem lz_r (w : Int64) : -9223372036854775808 ≤ w.toInt ∧ w.toInt ≤ 9223372036854775807 := by
  have h1 := Int64.toInt_lt w
  have h2 := Int64.le_toInt w
  omega
section
variable {E : Ev} {G : Gw} {I J : Mz} {own : String} {cc : ByteArray} {n d pc b L : Nat} {xs : Nat → Int32} {i : Int} {lo : List (Option Value)} {st : List Value}
theorem Z_sld (ok : Ok E G own cc n d) (sk : Sk E b L xs) (hL : L ≤ 2560) (hi : 0 ≤ i ∧ i < (L : Int)) (hd : decode cc pc = .ok (.iaload, 1)) (kk : Xz E G I J (pc + 1) lo (zi (xz xs i) :: st)) : Xz E G I J pc lo (zi i :: .ref b :: st) := by
  obtain ⟨p, l, e, R, s, m, args, below, meth, c, Q, A, nL, cl, sl⟩ := E
  intro H locs hP hS ls hls
  have e1 : zi i = .int (nI i.toNat) := by unfold zi; rw [nIz hi.1]
  rw [e1]
  refine va_sld ok.1 ok.2.1 sk.1 sk.2.1 sk.2.2 hS (vp_in_nI (by omega) (by omega)) hd ?_
  rw [nI_clamp (by omega)]
  have e2 : Value.int (xs i.toNat) = zi (xz xs i) := by unfold zi xz; rw [Int32.ofInt_toInt]
  rw [e2]
  exact kk H locs hP hS ls hls
theorem Z_slen (ok : Ok E G own cc n d) (sk : Sk E b L xs) (hd : decode cc pc = .ok (.arraylength, 1)) (kk : Xz E G I J (pc + 1) lo (zi (L : Int) :: st)) : Xz E G I J pc lo (.ref b :: st) := by
  obtain ⟨p, l, e, R, s, m, args, below, meth, c, Q, A, nL, cl, sl⟩ := E
  intro H locs hP hS ls hls
  refine va_slen ok.1 ok.2.1 sk.1 sk.2.1 sk.2.2 hS hd ?_
  have e1 : Value.int (Int32.ofNat L) = zi (L : Int) := by
    unfold zi; rw [nIz (by omega)]; rfl
  rw [e1]
  exact kk H locs hP hS ls hls
theorem Z_arg {v1 v2 : Option Value} {k : Int} (ok : Ok E G own cc n d) (sk : Sk E b L xs) (hL : L ≤ 2560) (h1 : decode cc pc = .ok (.aload_n 0, 1)) (h2 : decode cc (pc + 1) = .ok (.iload_n 3, 1)) (h3 : decode cc (pc + 2) = .ok (.iconst k, 1)) (h4 : decode cc (pc + 3) = .ok (.iadd, 1)) (h5 : decode cc (pc + 4) = .ok (.iaload, 1)) (hi : 0 ≤ i + k ∧ i + k < (L : Int)) (kk : Xz E G I J (pc + 5) [some (.ref b), v1, v2, some (zi i)] (zi (xz xs (i + k)) :: st)) : Xz E G I J pc [some (.ref b), v1, v2, some (zi i)] st := by
  refine V_aload0 ok h1 ?_
  refine Z_iload3 ok h2 ?_
  refine Z_iconst ok h3 ?_
  refine Z_iadd ok h4 ?_
  exact Z_sld ok sk hL hi h5 kk
theorem Z_same {a a' : Int} {off : Int} {tgt : Nat} (ok : Ok E G own cc n d) (hd : decode cc pc = .ok (.if_icmp .eq off, 3)) (ht : (pc : Int) + off = (tgt : Int)) (e : a = a') (kk : Xz E G I J tgt lo st) : Xz E G I J pc lo (zi a' :: zi a :: st) := by
  subst e
  exact V_icmp_eq ok hd ht (fun _ => kk) (fun q => absurd rfl q)
theorem Z_sameL {a a' : Int} {off : Int} {tgt : Nat} (ok : Ok E G own cc n d) (hd : decode cc pc = .ok (.lcmp, 1)) (hd2 : decode cc (pc + 1) = .ok (.ifCond .eq off, 3)) (ht : ((pc + 1 : Nat) : Int) + off = (tgt : Int)) (e : a = a') (kk : Xz E G I J tgt lo st) : Xz E G I J pc lo (zl a' :: zl a :: st) := by
  subst e
  refine V_lcmp ok hd ?_
  refine V_if_eq ok hd2 ht (fun _ => kk) (fun q => absurd ?_ q)
  unfold lg_cmp
  rw [if_neg (by simp), if_pos rfl]
theorem Z_long {w : Int64} (kk : Xz E G I J pc lo (zl w.toInt :: st)) : V E G (zI I) (zJ J) pc lo (.long w :: st) := by
  unfold zl at kk
  rw [Int64.ofInt_toInt] at kk
  exact kk
/-- the kind of a step -/
theorem and63 (x : Int32) : ∃ r : Int, (0 ≤ r ∧ r < 64) ∧ x &&& 63 = Int32.ofInt r := by
  refine ⟨(x.toBitVec.toNat &&& 63 : Nat), ⟨by omega, by have := Nat.and_le_right (n := x.toBitVec.toNat) (m := 63); omega⟩, ?_⟩
  apply Int32.toBitVec_inj.mp
  rw [Int32.toBitVec_and]
  apply BitVec.eq_of_toNat_eq
  rw [BitVec.toNat_and]
  have hle : x.toBitVec.toNat &&& 63 ≤ 63 := Nat.and_le_right
  rw [nIz (by omega)]
  show x.toBitVec.toNat &&& 63 = (BitVec.ofNat 32 (((x.toBitVec.toNat &&& 63 : Nat) : Int).toNat)).toNat
  rw [BitVec.toNat_ofNat, Int.toNat_natCast, Nat.mod_eq_of_lt (by omega)]

theorem law_base (ok : Ok E G RL cL_law 4 44) (sk : Sk E b L xs) (hL : L ≤ 2560) (hi : 0 ≤ i ∧ i + 5 ≤ L) (h : Inv I J) (kk : ∀ I2 J2, Inv I2 J2 → Xz E G I2 J2 1441 [some (.ref b), some (zr G 0), some (zr G 121), some (zi i)] []) : Xz E G I J 248 [some (.ref b), some (zr G 0), some (zr G 121), some (zi i)] [] := by
  refine Z_aload1 (pc := 248) ok dL_law_248 ?_
  refine Z_arg (pc := 249) (k := 1) ok sk hL dL_law_249 dL_law_250 dL_law_251 dL_law_252 dL_law_253 (by omega) ?_
  refine Z_callVI (pc := 254) ok dL_law_254 cw_L_13 rfl rfl (by decide) (c_base (xz_r _ _)) rfl rfl (by decide) (Nat.le_of_ble_eq_true rfl) (fun r I1 J1 hp => ?_)
  obtain ⟨mm, hm⟩ := o_base h hp
  have p := h.mid mm
  refine Z_aload2 (pc := 257) ok dL_law_257 ?_
  refine Z_arg (pc := 258) (k := 1) ok sk hL dL_law_258 dL_law_259 dL_law_260 dL_law_261 dL_law_262 (by omega) ?_
  refine Z_callVI (pc := 263) ok dL_law_263 cw_L_17 rfl rfl (by decide) (m_base (xz_r _ _)) rfl rfl (by decide) (Nat.le_of_ble_eq_true rfl) (fun r2 I2 J2 hp2 => ?_)
  obtain ⟨e, h2⟩ := hm _ _ _ hp2
  exact Z_same (pc := 266) (tgt := 1441) ok dL_law_266 (by decide) e (kk _ _ h2)
theorem law_set (ok : Ok E G RL cL_law 4 44) (sk : Sk E b L xs) (hL : L ≤ 2560) (hi : 0 ≤ i ∧ i + 5 ≤ L) (h : Inv I J) (kk : ∀ I2 J2, Inv I2 J2 → Xz E G I2 J2 1441 [some (.ref b), some (zr G 0), some (zr G 121), some (zi i)] []) : Xz E G I J 271 [some (.ref b), some (zr G 0), some (zr G 121), some (zi i)] [] := by
  refine Z_aload1 (pc := 271) ok dL_law_271 ?_
  refine Z_arg (pc := 272) (k := 1) ok sk hL dL_law_272 dL_law_273 dL_law_274 dL_law_275 dL_law_276 (by omega) ?_
  refine Z_arg (pc := 277) (k := 2) ok sk hL dL_law_277 dL_law_278 dL_law_279 dL_law_280 dL_law_281 (by omega) ?_
  refine Z_callVI (pc := 282) ok dL_law_282 cw_L_18 rfl rfl (by decide) (c_set (xz_r _ _) (xz_r _ _) h.1.1.1) rfl rfl (by decide) (Nat.le_of_ble_eq_true rfl) (fun r I1 J1 hp => ?_)
  obtain ⟨mm, hm⟩ := o_set h hp
  have p := h.mid mm
  refine Z_aload2 (pc := 285) ok dL_law_285 ?_
  refine Z_arg (pc := 286) (k := 1) ok sk hL dL_law_286 dL_law_287 dL_law_288 dL_law_289 dL_law_290 (by omega) ?_
  refine Z_arg (pc := 291) (k := 2) ok sk hL dL_law_291 dL_law_292 dL_law_293 dL_law_294 dL_law_295 (by omega) ?_
  refine Z_callVI (pc := 296) ok dL_law_296 cw_L_22 rfl rfl (by decide) (m_set (xz_r _ _) (xz_r _ _) p.1) rfl rfl (by decide) (Nat.le_of_ble_eq_true rfl) (fun r2 I2 J2 hp2 => ?_)
  obtain ⟨e, h2⟩ := hm _ _ _ hp2
  exact Z_same (pc := 299) (tgt := 1441) ok dL_law_299 (by decide) e (kk _ _ h2)
theorem law_add (ok : Ok E G RL cL_law 4 44) (sk : Sk E b L xs) (hL : L ≤ 2560) (hi : 0 ≤ i ∧ i + 5 ≤ L) (h : Inv I J) (kk : ∀ I2 J2, Inv I2 J2 → Xz E G I2 J2 1441 [some (.ref b), some (zr G 0), some (zr G 121), some (zi i)] []) : Xz E G I J 304 [some (.ref b), some (zr G 0), some (zr G 121), some (zi i)] [] := by
  refine Z_aload1 (pc := 304) ok dL_law_304 ?_
  refine Z_arg (pc := 305) (k := 1) ok sk hL dL_law_305 dL_law_306 dL_law_307 dL_law_308 dL_law_309 (by omega) ?_
  refine Z_callVI (pc := 310) ok dL_law_310 cw_L_23 rfl rfl (by decide) (c_add (xz_r _ _) h.1.1.1) rfl rfl (by decide) (Nat.le_of_ble_eq_true rfl) (fun r I1 J1 hp => ?_)
  obtain ⟨mm, hm⟩ := o_add h hp
  have p := h.mid mm
  refine Z_aload2 (pc := 313) ok dL_law_313 ?_
  refine Z_arg (pc := 314) (k := 1) ok sk hL dL_law_314 dL_law_315 dL_law_316 dL_law_317 dL_law_318 (by omega) ?_
  refine Z_callVI (pc := 319) ok dL_law_319 cw_L_26 rfl rfl (by decide) (m_add (xz_r _ _) p.1) rfl rfl (by decide) (Nat.le_of_ble_eq_true rfl) (fun r2 I2 J2 hp2 => ?_)
  obtain ⟨e, h2⟩ := hm _ _ _ hp2
  exact Z_same (pc := 322) (tgt := 1441) ok dL_law_322 (by decide) e (kk _ _ h2)
theorem law_of (ok : Ok E G RL cL_law 4 44) (sk : Sk E b L xs) (hL : L ≤ 2560) (hi : 0 ≤ i ∧ i + 5 ≤ L) (h : Inv I J) (kk : ∀ I2 J2, Inv I2 J2 → Xz E G I2 J2 1441 [some (.ref b), some (zr G 0), some (zr G 121), some (zi i)] []) : Xz E G I J 327 [some (.ref b), some (zr G 0), some (zr G 121), some (zi i)] [] := by
  refine Z_aload1 (pc := 327) ok dL_law_327 ?_
  refine Z_arg (pc := 328) (k := 1) ok sk hL dL_law_328 dL_law_329 dL_law_330 dL_law_331 dL_law_332 (by omega) ?_
  refine Z_callVI (pc := 333) ok dL_law_333 cw_L_27 rfl rfl (by decide) (c_of (xz_r _ _) h.1.1.1) rfl rfl (by decide) (Nat.le_of_ble_eq_true rfl) (fun r I1 J1 hp => ?_)
  obtain ⟨mm, hm⟩ := o_of h hp
  have p := h.mid mm
  refine Z_aload2 (pc := 336) ok dL_law_336 ?_
  refine Z_arg (pc := 337) (k := 1) ok sk hL dL_law_337 dL_law_338 dL_law_339 dL_law_340 dL_law_341 (by omega) ?_
  refine Z_callVI (pc := 342) ok dL_law_342 cw_L_30 rfl rfl (by decide) (m_of (xz_r _ _) p.1) rfl rfl (by decide) (Nat.le_of_ble_eq_true rfl) (fun r2 I2 J2 hp2 => ?_)
  obtain ⟨e, h2⟩ := hm _ _ _ hp2
  exact Z_same (pc := 345) (tgt := 1441) ok dL_law_345 (by decide) e (kk _ _ h2)
theorem law_weight (ok : Ok E G RL cL_law 4 44) (sk : Sk E b L xs) (hL : L ≤ 2560) (hi : 0 ≤ i ∧ i + 5 ≤ L) (h : Inv I J) (kk : ∀ I2 J2, Inv I2 J2 → Xz E G I2 J2 1441 [some (.ref b), some (zr G 0), some (zr G 121), some (zi i)] []) : Xz E G I J 350 [some (.ref b), some (zr G 0), some (zr G 121), some (zi i)] [] := by
  refine Z_aload1 (pc := 350) ok dL_law_350 ?_
  refine Z_callVId (pc := 351) ok dL_law_351 cw_L_31 rfl rfl (by decide) (c_weight h.1.1.1) rfl rfl (by decide) (Nat.le_of_ble_eq_true rfl) ?_
  obtain ⟨mm, hm⟩ := o_weight h ⟨rfl, rfl, rfl⟩
  have p := h.mid mm
  refine Z_aload2 (pc := 354) ok dL_law_354 ?_
  refine Z_callVId (pc := 355) ok dL_law_355 cw_L_35 rfl rfl (by decide) (m_weight p.1.1) rfl rfl (by decide) (Nat.le_of_ble_eq_true rfl) ?_
  obtain ⟨e, h2⟩ := hm _ _ _ ⟨rfl, rfl, rfl⟩
  exact Z_same (pc := 358) (tgt := 1441) ok dL_law_358 (by decide) e (kk _ _ h2)
theorem law_clear (ok : Ok E G RL cL_law 4 44) (sk : Sk E b L xs) (hL : L ≤ 2560) (hi : 0 ≤ i ∧ i + 5 ≤ L) (h : Inv I J) (kk : ∀ I2 J2, Inv I2 J2 → Xz E G I2 J2 1441 [some (.ref b), some (zr G 0), some (zr G 121), some (zi i)] []) : Xz E G I J 363 [some (.ref b), some (zr G 0), some (zr G 121), some (zi i)] [] := by
  refine Z_aload1 (pc := 363) ok dL_law_363 ?_
  refine Z_callVId (pc := 364) ok dL_law_364 cw_L_36 rfl rfl (by decide) (c_clear h.1.1.1) rfl rfl (by decide) (Nat.le_of_ble_eq_true rfl) ?_
  obtain ⟨mm, hm⟩ := o_clear h ⟨rfl, rfl, rfl⟩
  have p := h.mid mm
  refine Z_aload2 (pc := 367) ok dL_law_367 ?_
  refine Z_callVId (pc := 368) ok dL_law_368 cw_L_39 rfl rfl (by decide) (m_clear p.1) rfl rfl (by decide) (Nat.le_of_ble_eq_true rfl) ?_
  obtain ⟨e, h2⟩ := hm _ _ _ ⟨rfl, rfl, rfl⟩
  exact Z_same (pc := 371) (tgt := 1441) ok dL_law_371 (by decide) e (kk _ _ h2)
theorem law_phi (ok : Ok E G RL cL_law 4 44) (sk : Sk E b L xs) (hL : L ≤ 2560) (hi : 0 ≤ i ∧ i + 5 ≤ L) (h : Inv I J) (kk : ∀ I2 J2, Inv I2 J2 → Xz E G I2 J2 1441 [some (.ref b), some (zr G 0), some (zr G 121), some (zi i)] []) : Xz E G I J 376 [some (.ref b), some (zr G 0), some (zr G 121), some (zi i)] [] := by
  refine Z_aload1 (pc := 376) ok dL_law_376 ?_
  refine Z_arg (pc := 377) (k := 1) ok sk hL dL_law_377 dL_law_378 dL_law_379 dL_law_380 dL_law_381 (by omega) ?_
  refine Z_callVL (pc := 382) ok dL_law_382 cw_L_40 rfl rfl (by decide) (c_phi (xz_r _ _) h.1.1.1 h.2.2.2.2.1.1 h.2.2.2.2.1.2.1) rfl rfl (by decide) (Nat.le_of_ble_eq_true rfl) (fun r I1 J1 hp => ?_)
  obtain ⟨mm, hm⟩ := o_phi h hp
  have p := h.mid mm
  refine Z_aload2 (pc := 385) ok dL_law_385 ?_
  refine Z_arg (pc := 386) (k := 1) ok sk hL dL_law_386 dL_law_387 dL_law_388 dL_law_389 dL_law_390 (by omega) ?_
  refine Z_callVL (pc := 391) ok dL_law_391 cw_L_44 rfl rfl (by decide) (m_phi (xz_r _ _) p.1.1 p.2.1) rfl rfl (by decide) (Nat.le_of_ble_eq_true rfl) (fun r2 I2 J2 hp2 => ?_)
  obtain ⟨e, h2⟩ := hm _ _ _ hp2
  exact Z_sameL (pc := 394) (tgt := 1441) ok dL_law_394 dL_law_395 (by decide) e (kk _ _ h2)
theorem law_rest (ok : Ok E G RL cL_law 4 44) (sk : Sk E b L xs) (hL : L ≤ 2560) (hi : 0 ≤ i ∧ i + 5 ≤ L) (h : Inv I J) (kk : ∀ I2 J2, Inv I2 J2 → Xz E G I2 J2 1441 [some (.ref b), some (zr G 0), some (zr G 121), some (zi i)] []) : Xz E G I J 400 [some (.ref b), some (zr G 0), some (zr G 121), some (zi i)] [] := by
  refine Z_aload1 (pc := 400) ok dL_law_400 ?_
  refine Z_arg (pc := 401) (k := 1) ok sk hL dL_law_401 dL_law_402 dL_law_403 dL_law_404 dL_law_405 (by omega) ?_
  refine Z_callVL (pc := 406) ok dL_law_406 cw_L_45 rfl rfl (by decide) (c_rest (xz_r _ _) h.1.1.1 h.2.2.2.2.1.1 h.2.2.2.2.1.2.1) rfl rfl (by decide) (Nat.le_of_ble_eq_true rfl) (fun r I1 J1 hp => ?_)
  obtain ⟨mm, hm⟩ := o_rest h hp
  have p := h.mid mm
  refine Z_aload2 (pc := 409) ok dL_law_409 ?_
  refine Z_arg (pc := 410) (k := 1) ok sk hL dL_law_410 dL_law_411 dL_law_412 dL_law_413 dL_law_414 (by omega) ?_
  refine Z_callVL (pc := 415) ok dL_law_415 cw_L_48 rfl rfl (by decide) (m_rest (xz_r _ _) p.1 p.2.1) rfl rfl (by decide) (Nat.le_of_ble_eq_true rfl) (fun r2 I2 J2 hp2 => ?_)
  obtain ⟨e, h2⟩ := hm _ _ _ hp2
  exact Z_sameL (pc := 418) (tgt := 1441) ok dL_law_418 dL_law_419 (by decide) e (kk _ _ h2)
theorem law_nought (ok : Ok E G RL cL_law 4 44) (sk : Sk E b L xs) (hL : L ≤ 2560) (hi : 0 ≤ i ∧ i + 5 ≤ L) (h : Inv I J) (kk : ∀ I2 J2, Inv I2 J2 → Xz E G I2 J2 1441 [some (.ref b), some (zr G 0), some (zr G 121), some (zi i)] []) : Xz E G I J 424 [some (.ref b), some (zr G 0), some (zr G 121), some (zi i)] [] := by
  refine Z_aload1 (pc := 424) ok dL_law_424 ?_
  refine Z_callVI (pc := 425) ok dL_law_425 cw_L_49 rfl rfl (by decide) (c_nought h.1.1.1 h.2.2.2.2.1.1 h.2.2.2.2.1.2.1) rfl rfl (by decide) (Nat.le_of_ble_eq_true rfl) (fun r I1 J1 hp => ?_)
  obtain ⟨mm, hm⟩ := o_nought h hp
  have p := h.mid mm
  refine Z_aload2 (pc := 428) ok dL_law_428 ?_
  refine Z_callVI (pc := 429) ok dL_law_429 cw_L_52 rfl rfl (by decide) (m_nought p.1 p.2.1) rfl rfl (by decide) (Nat.le_of_ble_eq_true rfl) (fun r2 I2 J2 hp2 => ?_)
  obtain ⟨e, h2⟩ := hm _ _ _ hp2
  exact Z_same (pc := 432) (tgt := 1441) ok dL_law_432 (by decide) e (kk _ _ h2)
theorem law_primitive (ok : Ok E G RL cL_law 4 44) (sk : Sk E b L xs) (hL : L ≤ 2560) (hi : 0 ≤ i ∧ i + 5 ≤ L) (h : Inv I J) (kk : ∀ I2 J2, Inv I2 J2 → Xz E G I2 J2 1441 [some (.ref b), some (zr G 0), some (zr G 121), some (zi i)] []) : Xz E G I J 437 [some (.ref b), some (zr G 0), some (zr G 121), some (zi i)] [] := by
  refine Z_aload1 (pc := 437) ok dL_law_437 ?_
  refine Z_callVI (pc := 438) ok dL_law_438 cw_L_53 rfl rfl (by decide) (c_primitive h.1.1.1 h.2.2.2.2.1) rfl rfl (by decide) (Nat.le_of_ble_eq_true rfl) (fun r I1 J1 hp => ?_)
  obtain ⟨mm, hm⟩ := o_primitive h hp
  have p := h.mid mm
  refine Z_aload2 (pc := 441) ok dL_law_441 ?_
  refine Z_callVI (pc := 442) ok dL_law_442 cw_L_56 rfl rfl (by decide) (m_primitive p.1 p.2.1) rfl rfl (by decide) (Nat.le_of_ble_eq_true rfl) (fun r2 I2 J2 hp2 => ?_)
  obtain ⟨e, h2⟩ := hm _ _ _ hp2
  exact Z_same (pc := 445) (tgt := 1441) ok dL_law_445 (by decide) e (kk _ _ h2)
theorem law_parts (ok : Ok E G RL cL_law 4 44) (sk : Sk E b L xs) (hL : L ≤ 2560) (hi : 0 ≤ i ∧ i + 5 ≤ L) (h : Inv I J) (kk : ∀ I2 J2, Inv I2 J2 → Xz E G I2 J2 1441 [some (.ref b), some (zr G 0), some (zr G 121), some (zi i)] []) : Xz E G I J 450 [some (.ref b), some (zr G 0), some (zr G 121), some (zi i)] [] := by
  refine Z_aload1 (pc := 450) ok dL_law_450 ?_
  refine Z_arg (pc := 451) (k := 1) ok sk hL dL_law_451 dL_law_452 dL_law_453 dL_law_454 dL_law_455 (by omega) ?_
  refine Z_callVI (pc := 456) ok dL_law_456 cw_L_57 rfl rfl (by decide) (c_parts (xz_r _ _) h.1.1.1 h.2.2.2.2.1) rfl rfl (by decide) (Nat.le_of_ble_eq_true rfl) (fun r I1 J1 hp => ?_)
  obtain ⟨mm, hm⟩ := o_parts h hp
  have p := h.mid mm
  refine Z_aload2 (pc := 459) ok dL_law_459 ?_
  refine Z_arg (pc := 460) (k := 1) ok sk hL dL_law_460 dL_law_461 dL_law_462 dL_law_463 dL_law_464 (by omega) ?_
  refine Z_callVI (pc := 465) ok dL_law_465 cw_L_60 rfl rfl (by decide) (m_parts (xz_r _ _) p.1 p.2.1) rfl rfl (by decide) (Nat.le_of_ble_eq_true rfl) (fun r2 I2 J2 hp2 => ?_)
  obtain ⟨e, h2⟩ := hm _ _ _ hp2
  exact Z_same (pc := 468) (tgt := 1441) ok dL_law_468 (by decide) e (kk _ _ h2)
theorem law_part (ok : Ok E G RL cL_law 4 44) (sk : Sk E b L xs) (hL : L ≤ 2560) (hi : 0 ≤ i ∧ i + 5 ≤ L) (h : Inv I J) (kk : ∀ I2 J2, Inv I2 J2 → Xz E G I2 J2 1441 [some (.ref b), some (zr G 0), some (zr G 121), some (zi i)] []) : Xz E G I J 473 [some (.ref b), some (zr G 0), some (zr G 121), some (zi i)] [] := by
  refine Z_aload1 (pc := 473) ok dL_law_473 ?_
  refine Z_arg (pc := 474) (k := 1) ok sk hL dL_law_474 dL_law_475 dL_law_476 dL_law_477 dL_law_478 (by omega) ?_
  refine Z_callVI (pc := 479) ok dL_law_479 cw_L_61 rfl rfl (by decide) (c_part (xz_r _ _) h.1.1.1 h.2.2.2.2.1) rfl rfl (by decide) (Nat.le_of_ble_eq_true rfl) (fun r I1 J1 hp => ?_)
  obtain ⟨mm, hm⟩ := o_part h hp
  have p := h.mid mm
  refine Z_aload2 (pc := 482) ok dL_law_482 ?_
  refine Z_arg (pc := 483) (k := 1) ok sk hL dL_law_483 dL_law_484 dL_law_485 dL_law_486 dL_law_487 (by omega) ?_
  refine Z_callVI (pc := 488) ok dL_law_488 cw_L_64 rfl rfl (by decide) (m_part (xz_r _ _) p.1 p.2.1) rfl rfl (by decide) (Nat.le_of_ble_eq_true rfl) (fun r2 I2 J2 hp2 => ?_)
  obtain ⟨e, h2⟩ := hm _ _ _ hp2
  exact Z_same (pc := 491) (tgt := 1441) ok dL_law_491 (by decide) e (kk _ _ h2)
theorem law_take (ok : Ok E G RL cL_law 4 44) (sk : Sk E b L xs) (hL : L ≤ 2560) (hi : 0 ≤ i ∧ i + 5 ≤ L) (h : Inv I J) (kk : ∀ I2 J2, Inv I2 J2 → Xz E G I2 J2 1441 [some (.ref b), some (zr G 0), some (zr G 121), some (zi i)] []) : Xz E G I J 496 [some (.ref b), some (zr G 0), some (zr G 121), some (zi i)] [] := by
  refine Z_aload1 (pc := 496) ok dL_law_496 ?_
  refine Z_callVI (pc := 497) ok dL_law_497 cw_L_65 rfl rfl (by decide) (c_take h.1.1.1 h.2.2.2.2.1) rfl rfl (by decide) (Nat.le_of_ble_eq_true rfl) (fun r I1 J1 hp => ?_)
  obtain ⟨mm, hm⟩ := o_take h hp
  have p := h.mid mm
  refine Z_aload2 (pc := 500) ok dL_law_500 ?_
  refine Z_callVI (pc := 501) ok dL_law_501 cw_L_68 rfl rfl (by decide) (m_take p.1 p.2.1) rfl rfl (by decide) (Nat.le_of_ble_eq_true rfl) (fun r2 I2 J2 hp2 => ?_)
  obtain ⟨e, h2⟩ := hm _ _ _ hp2
  exact Z_same (pc := 504) (tgt := 1441) ok dL_law_504 (by decide) e (kk _ _ h2)
theorem law_pieces (ok : Ok E G RL cL_law 4 44) (sk : Sk E b L xs) (hL : L ≤ 2560) (hi : 0 ≤ i ∧ i + 5 ≤ L) (h : Inv I J) (kk : ∀ I2 J2, Inv I2 J2 → Xz E G I2 J2 1441 [some (.ref b), some (zr G 0), some (zr G 121), some (zi i)] []) : Xz E G I J 509 [some (.ref b), some (zr G 0), some (zr G 121), some (zi i)] [] := by
  refine Z_aload1 (pc := 509) ok dL_law_509 ?_
  refine Z_callVI (pc := 510) ok dL_law_510 cw_L_69 rfl rfl (by decide) (c_pieces h.1.1.1 h.2.2.2.2.1) rfl rfl (by decide) (Nat.le_of_ble_eq_true rfl) (fun r I1 J1 hp => ?_)
  obtain ⟨mm, hm⟩ := o_pieces h hp
  have p := h.mid mm
  refine Z_aload2 (pc := 513) ok dL_law_513 ?_
  refine Z_callVI (pc := 514) ok dL_law_514 cw_L_72 rfl rfl (by decide) (m_pieces p.1 p.2.1) rfl rfl (by decide) (Nat.le_of_ble_eq_true rfl) (fun r2 I2 J2 hp2 => ?_)
  obtain ⟨e, h2⟩ := hm _ _ _ hp2
  exact Z_same (pc := 517) (tgt := 1441) ok dL_law_517 (by decide) e (kk _ _ h2)
theorem law_turn (ok : Ok E G RL cL_law 4 44) (sk : Sk E b L xs) (hL : L ≤ 2560) (hi : 0 ≤ i ∧ i + 5 ≤ L) (h : Inv I J) (kk : ∀ I2 J2, Inv I2 J2 → Xz E G I2 J2 1441 [some (.ref b), some (zr G 0), some (zr G 121), some (zi i)] []) : Xz E G I J 522 [some (.ref b), some (zr G 0), some (zr G 121), some (zi i)] [] := by
  refine Z_aload1 (pc := 522) ok dL_law_522 ?_
  refine Z_arg (pc := 523) (k := 1) ok sk hL dL_law_523 dL_law_524 dL_law_525 dL_law_526 dL_law_527 (by omega) ?_
  refine Z_callVI (pc := 528) ok dL_law_528 cw_L_73 rfl rfl (by decide) (c_turn (xz_r _ _) h.1.1.1) rfl rfl (by decide) (Nat.le_of_ble_eq_true rfl) (fun r I1 J1 hp => ?_)
  obtain ⟨mm, hm⟩ := o_turn h hp
  have p := h.mid mm
  refine Z_aload2 (pc := 531) ok dL_law_531 ?_
  refine Z_arg (pc := 532) (k := 1) ok sk hL dL_law_532 dL_law_533 dL_law_534 dL_law_535 dL_law_536 (by omega) ?_
  refine Z_callVI (pc := 537) ok dL_law_537 cw_L_76 rfl rfl (by decide) (m_turn (xz_r _ _) p.1) rfl rfl (by decide) (Nat.le_of_ble_eq_true rfl) (fun r2 I2 J2 hp2 => ?_)
  obtain ⟨e, h2⟩ := hm _ _ _ hp2
  exact Z_same (pc := 540) (tgt := 1441) ok dL_law_540 (by decide) e (kk _ _ h2)
theorem law_times (ok : Ok E G RL cL_law 4 44) (sk : Sk E b L xs) (hL : L ≤ 2560) (hi : 0 ≤ i ∧ i + 5 ≤ L) (h : Inv I J) (kk : ∀ I2 J2, Inv I2 J2 → Xz E G I2 J2 1441 [some (.ref b), some (zr G 0), some (zr G 121), some (zi i)] []) : Xz E G I J 545 [some (.ref b), some (zr G 0), some (zr G 121), some (zi i)] [] := by
  refine Z_aload1 (pc := 545) ok dL_law_545 ?_
  refine Z_arg (pc := 546) (k := 1) ok sk hL dL_law_546 dL_law_547 dL_law_548 dL_law_549 dL_law_550 (by omega) ?_
  refine Z_callVI (pc := 551) ok dL_law_551 cw_L_77 rfl rfl (by decide) (c_times (xz_r _ _) h.1.1.1) rfl rfl (by decide) (Nat.le_of_ble_eq_true rfl) (fun r I1 J1 hp => ?_)
  obtain ⟨mm, hm⟩ := o_times h hp
  have p := h.mid mm
  refine Z_aload2 (pc := 554) ok dL_law_554 ?_
  refine Z_arg (pc := 555) (k := 1) ok sk hL dL_law_555 dL_law_556 dL_law_557 dL_law_558 dL_law_559 (by omega) ?_
  refine Z_callVI (pc := 560) ok dL_law_560 cw_L_80 rfl rfl (by decide) (m_times (xz_r _ _) p.1) rfl rfl (by decide) (Nat.le_of_ble_eq_true rfl) (fun r2 I2 J2 hp2 => ?_)
  obtain ⟨e, h2⟩ := hm _ _ _ hp2
  exact Z_same (pc := 563) (tgt := 1441) ok dL_law_563 (by decide) e (kk _ _ h2)
theorem law_mirror (ok : Ok E G RL cL_law 4 44) (sk : Sk E b L xs) (hL : L ≤ 2560) (hi : 0 ≤ i ∧ i + 5 ≤ L) (h : Inv I J) (kk : ∀ I2 J2, Inv I2 J2 → Xz E G I2 J2 1441 [some (.ref b), some (zr G 0), some (zr G 121), some (zi i)] []) : Xz E G I J 568 [some (.ref b), some (zr G 0), some (zr G 121), some (zi i)] [] := by
  refine Z_aload1 (pc := 568) ok dL_law_568 ?_
  refine Z_callVI (pc := 569) ok dL_law_569 cw_L_81 rfl rfl (by decide) (c_mirror h.1.1.1) rfl rfl (by decide) (Nat.le_of_ble_eq_true rfl) (fun r I1 J1 hp => ?_)
  obtain ⟨mm, hm⟩ := o_mirror h hp
  have p := h.mid mm
  refine Z_aload2 (pc := 572) ok dL_law_572 ?_
  refine Z_callVI (pc := 573) ok dL_law_573 cw_L_84 rfl rfl (by decide) (m_mirror p.1) rfl rfl (by decide) (Nat.le_of_ble_eq_true rfl) (fun r2 I2 J2 hp2 => ?_)
  obtain ⟨e, h2⟩ := hm _ _ _ hp2
  exact Z_same (pc := 576) (tgt := 1441) ok dL_law_576 (by decide) e (kk _ _ h2)
theorem law_raise (ok : Ok E G RL cL_law 4 44) (sk : Sk E b L xs) (hL : L ≤ 2560) (hi : 0 ≤ i ∧ i + 5 ≤ L) (h : Inv I J) (kk : ∀ I2 J2, Inv I2 J2 → Xz E G I2 J2 1441 [some (.ref b), some (zr G 0), some (zr G 121), some (zi i)] []) : Xz E G I J 581 [some (.ref b), some (zr G 0), some (zr G 121), some (zi i)] [] := by
  refine Z_aload1 (pc := 581) ok dL_law_581 ?_
  refine Z_arg (pc := 582) (k := 1) ok sk hL dL_law_582 dL_law_583 dL_law_584 dL_law_585 dL_law_586 (by omega) ?_
  refine Z_callVI (pc := 587) ok dL_law_587 cw_L_85 rfl rfl (by decide) (c_raise (xz_r _ _) h.1.1.1) rfl rfl (by decide) (Nat.le_of_ble_eq_true rfl) (fun r I1 J1 hp => ?_)
  obtain ⟨mm, hm⟩ := o_raise h hp
  have p := h.mid mm
  refine Z_aload2 (pc := 590) ok dL_law_590 ?_
  refine Z_arg (pc := 591) (k := 1) ok sk hL dL_law_591 dL_law_592 dL_law_593 dL_law_594 dL_law_595 (by omega) ?_
  refine Z_callVI (pc := 596) ok dL_law_596 cw_L_88 rfl rfl (by decide) (m_raise (xz_r _ _) p.1) rfl rfl (by decide) (Nat.le_of_ble_eq_true rfl) (fun r2 I2 J2 hp2 => ?_)
  obtain ⟨e, h2⟩ := hm _ _ _ hp2
  exact Z_same (pc := 599) (tgt := 1441) ok dL_law_599 (by decide) e (kk _ _ h2)
theorem law_stays (ok : Ok E G RL cL_law 4 44) (sk : Sk E b L xs) (hL : L ≤ 2560) (hi : 0 ≤ i ∧ i + 5 ≤ L) (h : Inv I J) (kk : ∀ I2 J2, Inv I2 J2 → Xz E G I2 J2 1441 [some (.ref b), some (zr G 0), some (zr G 121), some (zi i)] []) : Xz E G I J 604 [some (.ref b), some (zr G 0), some (zr G 121), some (zi i)] [] := by
  refine Z_aload1 (pc := 604) ok dL_law_604 ?_
  refine Z_arg (pc := 605) (k := 1) ok sk hL dL_law_605 dL_law_606 dL_law_607 dL_law_608 dL_law_609 (by omega) ?_
  refine Z_callVI (pc := 610) ok dL_law_610 cw_L_89 rfl rfl (by decide) (c_stays (xz_r _ _) h.1.1.1) rfl rfl (by decide) (Nat.le_of_ble_eq_true rfl) (fun r I1 J1 hp => ?_)
  obtain ⟨mm, hm⟩ := o_stays h hp
  have p := h.mid mm
  refine Z_aload2 (pc := 613) ok dL_law_613 ?_
  refine Z_arg (pc := 614) (k := 1) ok sk hL dL_law_614 dL_law_615 dL_law_616 dL_law_617 dL_law_618 (by omega) ?_
  refine Z_callVI (pc := 619) ok dL_law_619 cw_L_92 rfl rfl (by decide) (m_stays_ (xz_r _ _) p.1) rfl rfl (by decide) (Nat.le_of_ble_eq_true rfl) (fun r2 I2 J2 hp2 => ?_)
  obtain ⟨e, h2⟩ := hm _ _ _ hp2
  exact Z_same (pc := 622) (tgt := 1441) ok dL_law_622 (by decide) e (kk _ _ h2)
theorem law_best (ok : Ok E G RL cL_law 4 44) (sk : Sk E b L xs) (hL : L ≤ 2560) (hi : 0 ≤ i ∧ i + 5 ≤ L) (h : Inv I J) (kk : ∀ I2 J2, Inv I2 J2 → Xz E G I2 J2 1441 [some (.ref b), some (zr G 0), some (zr G 121), some (zi i)] []) : Xz E G I J 627 [some (.ref b), some (zr G 0), some (zr G 121), some (zi i)] [] := by
  refine Z_aload1 (pc := 627) ok dL_law_627 ?_
  refine Z_callVId (pc := 628) ok dL_law_628 cw_L_93 rfl rfl (by decide) (c_best h.1.1.1) rfl rfl (by decide) (Nat.le_of_ble_eq_true rfl) ?_
  obtain ⟨mm, hm⟩ := o_best h ⟨rfl, rfl, rfl⟩
  have p := h.mid mm
  refine Z_aload2 (pc := 631) ok dL_law_631 ?_
  refine Z_callVId (pc := 632) ok dL_law_632 cw_L_96 rfl rfl (by decide) (m_best p.1) rfl rfl (by decide) (Nat.le_of_ble_eq_true rfl) ?_
  obtain ⟨e, h2⟩ := hm _ _ _ ⟨rfl, rfl, rfl⟩
  exact Z_same (pc := 635) (tgt := 1441) ok dL_law_635 (by decide) e (kk _ _ h2)
theorem law_alike (ok : Ok E G RL cL_law 4 44) (sk : Sk E b L xs) (hL : L ≤ 2560) (hi : 0 ≤ i ∧ i + 5 ≤ L) (h : Inv I J) (kk : ∀ I2 J2, Inv I2 J2 → Xz E G I2 J2 1441 [some (.ref b), some (zr G 0), some (zr G 121), some (zi i)] []) : Xz E G I J 640 [some (.ref b), some (zr G 0), some (zr G 121), some (zi i)] [] := by
  refine Z_aload1 (pc := 640) ok dL_law_640 ?_
  refine Z_arg (pc := 641) (k := 1) ok sk hL dL_law_641 dL_law_642 dL_law_643 dL_law_644 dL_law_645 (by omega) ?_
  refine Z_callVI (pc := 646) ok dL_law_646 cw_L_97 rfl rfl (by decide) (c_alike (xz_r _ _) h.1.1.1 h.2.2.1.1) rfl rfl (by decide) (Nat.le_of_ble_eq_true rfl) (fun r I1 J1 hp => ?_)
  obtain ⟨mm, hm⟩ := o_alike h hp
  have p := h.mid mm
  refine Z_aload2 (pc := 649) ok dL_law_649 ?_
  refine Z_arg (pc := 650) (k := 1) ok sk hL dL_law_650 dL_law_651 dL_law_652 dL_law_653 dL_law_654 (by omega) ?_
  refine Z_callVI (pc := 655) ok dL_law_655 cw_L_100 rfl rfl (by decide) (m_alike (xz_r _ _) p.1 p.2.2.2.2.1.1 p.2.2.2.2.1.2) rfl rfl (by decide) (Nat.le_of_ble_eq_true rfl) (fun r2 I2 J2 hp2 => ?_)
  obtain ⟨e, h2⟩ := hm _ _ _ hp2
  exact Z_same (pc := 658) (tgt := 1441) ok dL_law_658 (by decide) e (kk _ _ h2)
theorem law_prime (ok : Ok E G RL cL_law 4 44) (sk : Sk E b L xs) (hL : L ≤ 2560) (hi : 0 ≤ i ∧ i + 5 ≤ L) (h : Inv I J) (kk : ∀ I2 J2, Inv I2 J2 → Xz E G I2 J2 1441 [some (.ref b), some (zr G 0), some (zr G 121), some (zi i)] []) : Xz E G I J 663 [some (.ref b), some (zr G 0), some (zr G 121), some (zi i)] [] := by
  refine Z_aload1 (pc := 663) ok dL_law_663 ?_
  refine Z_arg (pc := 664) (k := 1) ok sk hL dL_law_664 dL_law_665 dL_law_666 dL_law_667 dL_law_668 (by omega) ?_
  refine Z_callVI (pc := 669) ok dL_law_669 cw_L_101 rfl rfl (by decide) (c_prime (xz_r _ _) h.1.1.1) rfl rfl (by decide) (Nat.le_of_ble_eq_true rfl) (fun r I1 J1 hp => ?_)
  obtain ⟨mm, hm⟩ := o_prime h hp
  have p := h.mid mm
  refine Z_aload2 (pc := 672) ok dL_law_672 ?_
  refine Z_arg (pc := 673) (k := 1) ok sk hL dL_law_673 dL_law_674 dL_law_675 dL_law_676 dL_law_677 (by omega) ?_
  refine Z_callVI (pc := 678) ok dL_law_678 cw_L_104 rfl rfl (by decide) (m_prime (xz_r _ _) p.1) rfl rfl (by decide) (Nat.le_of_ble_eq_true rfl) (fun r2 I2 J2 hp2 => ?_)
  obtain ⟨e, h2⟩ := hm _ _ _ hp2
  exact Z_same (pc := 681) (tgt := 1441) ok dL_law_681 (by decide) e (kk _ _ h2)
theorem law_layer (ok : Ok E G RL cL_law 4 44) (sk : Sk E b L xs) (hL : L ≤ 2560) (hi : 0 ≤ i ∧ i + 5 ≤ L) (h : Inv I J) (kk : ∀ I2 J2, Inv I2 J2 → Xz E G I2 J2 1441 [some (.ref b), some (zr G 0), some (zr G 121), some (zi i)] []) : Xz E G I J 686 [some (.ref b), some (zr G 0), some (zr G 121), some (zi i)] [] := by
  refine Z_aload1 (pc := 686) ok dL_law_686 ?_
  refine Z_arg (pc := 687) (k := 1) ok sk hL dL_law_687 dL_law_688 dL_law_689 dL_law_690 dL_law_691 (by omega) ?_
  refine Z_arg (pc := 692) (k := 2) ok sk hL dL_law_692 dL_law_693 dL_law_694 dL_law_695 dL_law_696 (by omega) ?_
  refine Z_arg (pc := 697) (k := 3) ok sk hL dL_law_697 dL_law_698 dL_law_699 dL_law_700 dL_law_701 (by omega) ?_
  refine Z_callVI (pc := 702) ok dL_law_702 cw_L_105 rfl rfl (by decide) (c_layer (xz_r _ _) (xz_r _ _) (xz_r _ _) h.1.1.1) rfl rfl (by decide) (Nat.le_of_ble_eq_true rfl) (fun r I1 J1 hp => ?_)
  obtain ⟨mm, hm⟩ := o_layer h hp
  have p := h.mid mm
  refine Z_aload2 (pc := 705) ok dL_law_705 ?_
  refine Z_arg (pc := 706) (k := 1) ok sk hL dL_law_706 dL_law_707 dL_law_708 dL_law_709 dL_law_710 (by omega) ?_
  refine Z_arg (pc := 711) (k := 2) ok sk hL dL_law_711 dL_law_712 dL_law_713 dL_law_714 dL_law_715 (by omega) ?_
  refine Z_arg (pc := 716) (k := 3) ok sk hL dL_law_716 dL_law_717 dL_law_718 dL_law_719 dL_law_720 (by omega) ?_
  refine Z_callVI (pc := 721) ok dL_law_721 cw_L_109 rfl rfl (by decide) (m_layer (xz_r _ _) (xz_r _ _) (xz_r _ _) p.1) rfl rfl (by decide) (Nat.le_of_ble_eq_true rfl) (fun r2 I2 J2 hp2 => ?_)
  obtain ⟨e, h2⟩ := hm _ _ _ hp2
  exact Z_same (pc := 724) (tgt := 1441) ok dL_law_724 (by decide) e (kk _ _ h2)
theorem law_layers (ok : Ok E G RL cL_law 4 44) (sk : Sk E b L xs) (hL : L ≤ 2560) (hi : 0 ≤ i ∧ i + 5 ≤ L) (h : Inv I J) (kk : ∀ I2 J2, Inv I2 J2 → Xz E G I2 J2 1441 [some (.ref b), some (zr G 0), some (zr G 121), some (zi i)] []) : Xz E G I J 729 [some (.ref b), some (zr G 0), some (zr G 121), some (zi i)] [] := by
  refine Z_aload1 (pc := 729) ok dL_law_729 ?_
  refine Z_arg (pc := 730) (k := 1) ok sk hL dL_law_730 dL_law_731 dL_law_732 dL_law_733 dL_law_734 (by omega) ?_
  refine Z_arg (pc := 735) (k := 2) ok sk hL dL_law_735 dL_law_736 dL_law_737 dL_law_738 dL_law_739 (by omega) ?_
  refine Z_callVI (pc := 740) ok dL_law_740 cw_L_110 rfl rfl (by decide) (c_layers (xz_r _ _) (xz_r _ _) h.1.1.1 h.2.2.2.2.1.1 h.2.2.2.2.1.2.1) rfl rfl (by decide) (Nat.le_of_ble_eq_true rfl) (fun r I1 J1 hp => ?_)
  obtain ⟨mm, hm⟩ := o_layers h hp
  have p := h.mid mm
  refine Z_aload2 (pc := 743) ok dL_law_743 ?_
  refine Z_arg (pc := 744) (k := 1) ok sk hL dL_law_744 dL_law_745 dL_law_746 dL_law_747 dL_law_748 (by omega) ?_
  refine Z_arg (pc := 749) (k := 2) ok sk hL dL_law_749 dL_law_750 dL_law_751 dL_law_752 dL_law_753 (by omega) ?_
  refine Z_callVI (pc := 754) ok dL_law_754 cw_L_113 rfl rfl (by decide) (m_layers (xz_r _ _) (xz_r _ _) p.1 p.2.1) rfl rfl (by decide) (Nat.le_of_ble_eq_true rfl) (fun r2 I2 J2 hp2 => ?_)
  obtain ⟨e, h2⟩ := hm _ _ _ hp2
  exact Z_same (pc := 757) (tgt := 1441) ok dL_law_757 (by decide) e (kk _ _ h2)
theorem law_possible (ok : Ok E G RL cL_law 4 44) (sk : Sk E b L xs) (hL : L ≤ 2560) (hi : 0 ≤ i ∧ i + 5 ≤ L) (h : Inv I J) (kk : ∀ I2 J2, Inv I2 J2 → Xz E G I2 J2 1441 [some (.ref b), some (zr G 0), some (zr G 121), some (zi i)] []) : Xz E G I J 762 [some (.ref b), some (zr G 0), some (zr G 121), some (zi i)] [] := by
  refine Z_aload1 (pc := 762) ok dL_law_762 ?_
  refine Z_arg (pc := 763) (k := 1) ok sk hL dL_law_763 dL_law_764 dL_law_765 dL_law_766 dL_law_767 (by omega) ?_
  refine Z_callVI (pc := 768) ok dL_law_768 cw_L_114 rfl rfl (by decide) (c_possible (xz_r _ _) h.1.1.1) rfl rfl (by decide) (Nat.le_of_ble_eq_true rfl) (fun r I1 J1 hp => ?_)
  obtain ⟨mm, hm⟩ := o_possible h hp
  have p := h.mid mm
  refine Z_aload2 (pc := 771) ok dL_law_771 ?_
  refine Z_arg (pc := 772) (k := 1) ok sk hL dL_law_772 dL_law_773 dL_law_774 dL_law_775 dL_law_776 (by omega) ?_
  refine Z_callVI (pc := 777) ok dL_law_777 cw_L_117 rfl rfl (by decide) (m_possible (xz_r _ _) p.1.1) rfl rfl (by decide) (Nat.le_of_ble_eq_true rfl) (fun r2 I2 J2 hp2 => ?_)
  obtain ⟨e, h2⟩ := hm _ _ _ hp2
  exact Z_same (pc := 780) (tgt := 1441) ok dL_law_780 (by decide) e (kk _ _ h2)
theorem law_ways (ok : Ok E G RL cL_law 4 44) (sk : Sk E b L xs) (hL : L ≤ 2560) (hi : 0 ≤ i ∧ i + 5 ≤ L) (h : Inv I J) (kk : ∀ I2 J2, Inv I2 J2 → Xz E G I2 J2 1441 [some (.ref b), some (zr G 0), some (zr G 121), some (zi i)] []) : Xz E G I J 785 [some (.ref b), some (zr G 0), some (zr G 121), some (zi i)] [] := by
  refine Z_aload1 (pc := 785) ok dL_law_785 ?_
  refine Z_arg (pc := 786) (k := 1) ok sk hL dL_law_786 dL_law_787 dL_law_788 dL_law_789 dL_law_790 (by omega) ?_
  refine Z_callVI (pc := 791) ok dL_law_791 cw_L_118 rfl rfl (by decide) (c_ways (xz_r _ _) h.1.1.1) rfl rfl (by decide) (Nat.le_of_ble_eq_true rfl) (fun r I1 J1 hp => ?_)
  obtain ⟨mm, hm⟩ := o_ways h hp
  have p := h.mid mm
  refine Z_aload2 (pc := 794) ok dL_law_794 ?_
  refine Z_arg (pc := 795) (k := 1) ok sk hL dL_law_795 dL_law_796 dL_law_797 dL_law_798 dL_law_799 (by omega) ?_
  refine Z_callVI (pc := 800) ok dL_law_800 cw_L_121 rfl rfl (by decide) (m_ways (xz_r _ _) p.1.1) rfl rfl (by decide) (Nat.le_of_ble_eq_true rfl) (fun r2 I2 J2 hp2 => ?_)
  obtain ⟨e, h2⟩ := hm _ _ _ hp2
  exact Z_same (pc := 803) (tgt := 1441) ok dL_law_803 (by decide) e (kk _ _ h2)
theorem law_hole (ok : Ok E G RL cL_law 4 44) (sk : Sk E b L xs) (hL : L ≤ 2560) (hi : 0 ≤ i ∧ i + 5 ≤ L) (h : Inv I J) (kk : ∀ I2 J2, Inv I2 J2 → Xz E G I2 J2 1441 [some (.ref b), some (zr G 0), some (zr G 121), some (zi i)] []) : Xz E G I J 808 [some (.ref b), some (zr G 0), some (zr G 121), some (zi i)] [] := by
  refine Z_aload1 (pc := 808) ok dL_law_808 ?_
  refine Z_arg (pc := 809) (k := 1) ok sk hL dL_law_809 dL_law_810 dL_law_811 dL_law_812 dL_law_813 (by omega) ?_
  refine Z_callVI (pc := 814) ok dL_law_814 cw_L_122 rfl rfl (by decide) (c_hole (xz_r _ _) h.1.1.1) rfl rfl (by decide) (Nat.le_of_ble_eq_true rfl) (fun r I1 J1 hp => ?_)
  obtain ⟨mm, hm⟩ := o_hole h hp
  have p := h.mid mm
  refine Z_aload2 (pc := 817) ok dL_law_817 ?_
  refine Z_arg (pc := 818) (k := 1) ok sk hL dL_law_818 dL_law_819 dL_law_820 dL_law_821 dL_law_822 (by omega) ?_
  refine Z_callVI (pc := 823) ok dL_law_823 cw_L_125 rfl rfl (by decide) (m_hole (xz_r _ _) p.1.1) rfl rfl (by decide) (Nat.le_of_ble_eq_true rfl) (fun r2 I2 J2 hp2 => ?_)
  obtain ⟨e, h2⟩ := hm _ _ _ hp2
  exact Z_same (pc := 826) (tgt := 1441) ok dL_law_826 (by decide) e (kk _ _ h2)
theorem law_listed (ok : Ok E G RL cL_law 4 44) (sk : Sk E b L xs) (hL : L ≤ 2560) (hi : 0 ≤ i ∧ i + 5 ≤ L) (h : Inv I J) (kk : ∀ I2 J2, Inv I2 J2 → Xz E G I2 J2 1441 [some (.ref b), some (zr G 0), some (zr G 121), some (zi i)] []) : Xz E G I J 831 [some (.ref b), some (zr G 0), some (zr G 121), some (zi i)] [] := by
  refine Z_aload1 (pc := 831) ok dL_law_831 ?_
  refine Z_arg (pc := 832) (k := 1) ok sk hL dL_law_832 dL_law_833 dL_law_834 dL_law_835 dL_law_836 (by omega) ?_
  refine Z_arg (pc := 837) (k := 2) ok sk hL dL_law_837 dL_law_838 dL_law_839 dL_law_840 dL_law_841 (by omega) ?_
  refine Z_callVI (pc := 842) ok dL_law_842 cw_L_126 rfl rfl (by decide) (c_listed (xz_r _ _) (xz_r _ _) h.1.1.1 h.2.2.2.2.2.1 h.2.2.2.2.1.1 h.2.2.2.2.1.2.1) rfl rfl (by decide) (Nat.le_of_ble_eq_true rfl) (fun r I1 J1 hp => ?_)
  obtain ⟨mm, hm⟩ := o_listed h hp
  have p := h.mid mm
  refine Z_aload2 (pc := 845) ok dL_law_845 ?_
  refine Z_arg (pc := 846) (k := 1) ok sk hL dL_law_846 dL_law_847 dL_law_848 dL_law_849 dL_law_850 (by omega) ?_
  refine Z_arg (pc := 851) (k := 2) ok sk hL dL_law_851 dL_law_852 dL_law_853 dL_law_854 dL_law_855 (by omega) ?_
  refine Z_callVI (pc := 856) ok dL_law_856 cw_L_129 rfl rfl (by decide) (m_listed (xz_r _ _) (xz_r _ _) p.1.1 p.2.1) rfl rfl (by decide) (Nat.le_of_ble_eq_true rfl) (fun r2 I2 J2 hp2 => ?_)
  obtain ⟨e, h2⟩ := hm _ _ _ hp2
  exact Z_same (pc := 859) (tgt := 1441) ok dL_law_859 (by decide) e (kk _ _ h2)
theorem law_filled (ok : Ok E G RL cL_law 4 44) (sk : Sk E b L xs) (hL : L ≤ 2560) (hi : 0 ≤ i ∧ i + 5 ≤ L) (h : Inv I J) (kk : ∀ I2 J2, Inv I2 J2 → Xz E G I2 J2 1441 [some (.ref b), some (zr G 0), some (zr G 121), some (zi i)] []) : Xz E G I J 864 [some (.ref b), some (zr G 0), some (zr G 121), some (zi i)] [] := by
  refine Z_aload1 (pc := 864) ok dL_law_864 ?_
  refine Z_arg (pc := 865) (k := 1) ok sk hL dL_law_865 dL_law_866 dL_law_867 dL_law_868 dL_law_869 (by omega) ?_
  refine Z_arg (pc := 870) (k := 2) ok sk hL dL_law_870 dL_law_871 dL_law_872 dL_law_873 dL_law_874 (by omega) ?_
  refine Z_callVI (pc := 875) ok dL_law_875 cw_L_130 rfl rfl (by decide) (c_filled (xz_r _ _) (xz_r _ _) h.1.1.1 h.2.2.2.2.2.1 h.2.2.2.2.1.1 h.2.2.2.2.1.2.1) rfl rfl (by decide) (Nat.le_of_ble_eq_true rfl) (fun r I1 J1 hp => ?_)
  obtain ⟨mm, hm⟩ := o_filled h hp
  have p := h.mid mm
  refine Z_aload2 (pc := 878) ok dL_law_878 ?_
  refine Z_arg (pc := 879) (k := 1) ok sk hL dL_law_879 dL_law_880 dL_law_881 dL_law_882 dL_law_883 (by omega) ?_
  refine Z_arg (pc := 884) (k := 2) ok sk hL dL_law_884 dL_law_885 dL_law_886 dL_law_887 dL_law_888 (by omega) ?_
  refine Z_callVI (pc := 889) ok dL_law_889 cw_L_133 rfl rfl (by decide) (m_filled (xz_r _ _) (xz_r _ _) p.1.1 p.2.1) rfl rfl (by decide) (Nat.le_of_ble_eq_true rfl) (fun r2 I2 J2 hp2 => ?_)
  obtain ⟨e, h2⟩ := hm _ _ _ hp2
  exact Z_same (pc := 892) (tgt := 1441) ok dL_law_892 (by decide) e (kk _ _ h2)
theorem law_plan (ok : Ok E G RL cL_law 4 44) (sk : Sk E b L xs) (hL : L ≤ 2560) (hi : 0 ≤ i ∧ i + 5 ≤ L) (h : Inv I J) (kk : ∀ I2 J2, Inv I2 J2 → Xz E G I2 J2 1441 [some (.ref b), some (zr G 0), some (zr G 121), some (zi i)] []) : Xz E G I J 897 [some (.ref b), some (zr G 0), some (zr G 121), some (zi i)] [] := by
  refine Z_aload1 (pc := 897) ok dL_law_897 ?_
  refine Z_arg (pc := 898) (k := 1) ok sk hL dL_law_898 dL_law_899 dL_law_900 dL_law_901 dL_law_902 (by omega) ?_
  refine Z_arg (pc := 903) (k := 2) ok sk hL dL_law_903 dL_law_904 dL_law_905 dL_law_906 dL_law_907 (by omega) ?_
  refine Z_callVI (pc := 908) ok dL_law_908 cw_L_134 rfl rfl (by decide) (c_plan (xz_r _ _) h.1.2.1.1) rfl rfl (by decide) (Nat.le_of_ble_eq_true rfl) (fun r I1 J1 hp => ?_)
  obtain ⟨mm, hm⟩ := o_plan (xz_r _ _) h hp
  have p := h.mid mm
  refine Z_aload2 (pc := 911) ok dL_law_911 ?_
  refine Z_arg (pc := 912) (k := 1) ok sk hL dL_law_912 dL_law_913 dL_law_914 dL_law_915 dL_law_916 (by omega) ?_
  refine Z_arg (pc := 917) (k := 2) ok sk hL dL_law_917 dL_law_918 dL_law_919 dL_law_920 dL_law_921 (by omega) ?_
  refine Z_callVI (pc := 922) ok dL_law_922 cw_L_137 rfl rfl (by decide) (m_plan (xz_r _ _) p.2.2.1) rfl rfl (by decide) (Nat.le_of_ble_eq_true rfl) (fun r2 I2 J2 hp2 => ?_)
  obtain ⟨e, h2⟩ := hm _ _ _ hp2
  exact Z_same (pc := 925) (tgt := 1441) ok dL_law_925 (by decide) e (kk _ _ h2)
theorem law_unplan (ok : Ok E G RL cL_law 4 44) (sk : Sk E b L xs) (hL : L ≤ 2560) (hi : 0 ≤ i ∧ i + 5 ≤ L) (h : Inv I J) (kk : ∀ I2 J2, Inv I2 J2 → Xz E G I2 J2 1441 [some (.ref b), some (zr G 0), some (zr G 121), some (zi i)] []) : Xz E G I J 930 [some (.ref b), some (zr G 0), some (zr G 121), some (zi i)] [] := by
  refine Z_aload1 (pc := 930) ok dL_law_930 ?_
  refine Z_callVId (pc := 931) ok dL_law_931 cw_L_138 rfl rfl (by decide) (c_unplan ) rfl rfl (by decide) (Nat.le_of_ble_eq_true rfl) ?_
  obtain ⟨mm, hm⟩ := o_unplan h ⟨rfl, rfl, rfl⟩
  have p := h.mid mm
  refine Z_aload2 (pc := 934) ok dL_law_934 ?_
  refine Z_callVId (pc := 935) ok dL_law_935 cw_L_141 rfl rfl (by decide) (m_unplan ) rfl rfl (by decide) (Nat.le_of_ble_eq_true rfl) ?_
  obtain ⟨e, h2⟩ := hm _ _ _ ⟨rfl, rfl, rfl⟩
  exact Z_same (pc := 938) (tgt := 1441) ok dL_law_938 (by decide) e (kk _ _ h2)
theorem law_where (ok : Ok E G RL cL_law 4 44) (sk : Sk E b L xs) (hL : L ≤ 2560) (hi : 0 ≤ i ∧ i + 5 ≤ L) (h : Inv I J) (kk : ∀ I2 J2, Inv I2 J2 → Xz E G I2 J2 1441 [some (.ref b), some (zr G 0), some (zr G 121), some (zi i)] []) : Xz E G I J 943 [some (.ref b), some (zr G 0), some (zr G 121), some (zi i)] [] := by
  refine Z_aload1 (pc := 943) ok dL_law_943 ?_
  refine Z_arg (pc := 944) (k := 1) ok sk hL dL_law_944 dL_law_945 dL_law_946 dL_law_947 dL_law_948 (by omega) ?_
  refine Z_callVI (pc := 949) ok dL_law_949 cw_L_142 rfl rfl (by decide) (c_where (xz_r _ _) h.1.1.1 h.1.2.1.1) rfl rfl (by decide) (Nat.le_of_ble_eq_true rfl) (fun r I1 J1 hp => ?_)
  obtain ⟨mm, hm⟩ := o_where h hp
  have p := h.mid mm
  refine Z_aload2 (pc := 952) ok dL_law_952 ?_
  refine Z_arg (pc := 953) (k := 1) ok sk hL dL_law_953 dL_law_954 dL_law_955 dL_law_956 dL_law_957 (by omega) ?_
  refine Z_callVI (pc := 958) ok dL_law_958 cw_L_145 rfl rfl (by decide) (m_where (xz_r _ _) p.1 p.2.2.1) rfl rfl (by decide) (Nat.le_of_ble_eq_true rfl) (fun r2 I2 J2 hp2 => ?_)
  obtain ⟨e, h2⟩ := hm _ _ _ hp2
  exact Z_same (pc := 961) (tgt := 1441) ok dL_law_961 (by decide) e (kk _ _ h2)
theorem law_run (ok : Ok E G RL cL_law 4 44) (sk : Sk E b L xs) (hL : L ≤ 2560) (hi : 0 ≤ i ∧ i + 5 ≤ L) (h : Inv I J) (kk : ∀ I2 J2, Inv I2 J2 → Xz E G I2 J2 1441 [some (.ref b), some (zr G 0), some (zr G 121), some (zi i)] []) : Xz E G I J 966 [some (.ref b), some (zr G 0), some (zr G 121), some (zi i)] [] := by
  refine Z_aload1 (pc := 966) ok dL_law_966 ?_
  refine Z_callVI (pc := 967) ok dL_law_967 cw_L_146 rfl rfl (by decide) (c_run h.1.1.1 h.1.2.1.1) rfl rfl (by decide) (Nat.le_of_ble_eq_true rfl) (fun r I1 J1 hp => ?_)
  obtain ⟨mm, hm⟩ := o_run h hp
  have p := h.mid mm
  refine Z_aload2 (pc := 970) ok dL_law_970 ?_
  refine Z_callVI (pc := 971) ok dL_law_971 cw_L_149 rfl rfl (by decide) (m_run p.1 p.2.2.1) rfl rfl (by decide) (Nat.le_of_ble_eq_true rfl) (fun r2 I2 J2 hp2 => ?_)
  obtain ⟨e, h2⟩ := hm _ _ _ hp2
  exact Z_same (pc := 974) (tgt := 1441) ok dL_law_974 (by decide) e (kk _ _ h2)
theorem law_keep (ok : Ok E G RL cL_law 4 44) (sk : Sk E b L xs) (hL : L ≤ 2560) (hi : 0 ≤ i ∧ i + 5 ≤ L) (h : Inv I J) (kk : ∀ I2 J2, Inv I2 J2 → Xz E G I2 J2 1441 [some (.ref b), some (zr G 0), some (zr G 121), some (zi i)] []) : Xz E G I J 979 [some (.ref b), some (zr G 0), some (zr G 121), some (zi i)] [] := by
  refine Z_aload1 (pc := 979) ok dL_law_979 ?_
  refine Z_arg (pc := 980) (k := 1) ok sk hL dL_law_980 dL_law_981 dL_law_982 dL_law_983 dL_law_984 (by omega) ?_
  refine Z_callVI (pc := 985) ok dL_law_985 cw_L_150 rfl rfl (by decide) (c_keep (xz_r _ _) (fun i a b => (h.1.sh ⟨a, b⟩).1)) rfl rfl (by decide) (Nat.le_of_ble_eq_true rfl) (fun r I1 J1 hp => ?_)
  obtain ⟨mm, hm⟩ := o_keep h hp
  have p := h.mid mm
  refine Z_aload2 (pc := 988) ok dL_law_988 ?_
  refine Z_arg (pc := 989) (k := 1) ok sk hL dL_law_989 dL_law_990 dL_law_991 dL_law_992 dL_law_993 (by omega) ?_
  refine Z_callVI (pc := 994) ok dL_law_994 cw_L_153 rfl rfl (by decide) (m_keep (xz_r _ _) p.1 p.2.2.2.1) rfl rfl (by decide) (Nat.le_of_ble_eq_true rfl) (fun r2 I2 J2 hp2 => ?_)
  obtain ⟨e, h2⟩ := hm _ _ _ hp2
  exact Z_same (pc := 997) (tgt := 1441) ok dL_law_997 (by decide) e (kk _ _ h2)
theorem law_lay (ok : Ok E G RL cL_law 4 44) (sk : Sk E b L xs) (hL : L ≤ 2560) (hi : 0 ≤ i ∧ i + 5 ≤ L) (h : Inv I J) (kk : ∀ I2 J2, Inv I2 J2 → Xz E G I2 J2 1441 [some (.ref b), some (zr G 0), some (zr G 121), some (zi i)] []) : Xz E G I J 1002 [some (.ref b), some (zr G 0), some (zr G 121), some (zi i)] [] := by
  refine Z_aload1 (pc := 1002) ok dL_law_1002 ?_
  refine Z_arg (pc := 1003) (k := 1) ok sk hL dL_law_1003 dL_law_1004 dL_law_1005 dL_law_1006 dL_law_1007 (by omega) ?_
  refine Z_arg (pc := 1008) (k := 2) ok sk hL dL_law_1008 dL_law_1009 dL_law_1010 dL_law_1011 dL_law_1012 (by omega) ?_
  refine Z_callVI (pc := 1013) ok dL_law_1013 cw_L_154 rfl rfl (by decide) (c_lay (xz_r _ _) (xz_r _ _) (fun i a b => (h.1.sh ⟨a, b⟩).1)) rfl rfl (by decide) (Nat.le_of_ble_eq_true rfl) (fun r I1 J1 hp => ?_)
  obtain ⟨mm, hm⟩ := o_lay h hp
  have p := h.mid mm
  refine Z_aload2 (pc := 1016) ok dL_law_1016 ?_
  refine Z_arg (pc := 1017) (k := 1) ok sk hL dL_law_1017 dL_law_1018 dL_law_1019 dL_law_1020 dL_law_1021 (by omega) ?_
  refine Z_arg (pc := 1022) (k := 2) ok sk hL dL_law_1022 dL_law_1023 dL_law_1024 dL_law_1025 dL_law_1026 (by omega) ?_
  refine Z_callVI (pc := 1027) ok dL_law_1027 cw_L_157 rfl rfl (by decide) (m_lay (xz_r _ _) (xz_r _ _) p.2.2.2.1) rfl rfl (by decide) (Nat.le_of_ble_eq_true rfl) (fun r2 I2 J2 hp2 => ?_)
  obtain ⟨e, h2⟩ := hm _ _ _ hp2
  exact Z_same (pc := 1030) (tgt := 1441) ok dL_law_1030 (by decide) e (kk _ _ h2)
theorem law_drop (ok : Ok E G RL cL_law 4 44) (sk : Sk E b L xs) (hL : L ≤ 2560) (hi : 0 ≤ i ∧ i + 5 ≤ L) (h : Inv I J) (kk : ∀ I2 J2, Inv I2 J2 → Xz E G I2 J2 1441 [some (.ref b), some (zr G 0), some (zr G 121), some (zi i)] []) : Xz E G I J 1035 [some (.ref b), some (zr G 0), some (zr G 121), some (zi i)] [] := by
  refine Z_aload1 (pc := 1035) ok dL_law_1035 ?_
  refine Z_arg (pc := 1036) (k := 1) ok sk hL dL_law_1036 dL_law_1037 dL_law_1038 dL_law_1039 dL_law_1040 (by omega) ?_
  refine Z_arg (pc := 1041) (k := 2) ok sk hL dL_law_1041 dL_law_1042 dL_law_1043 dL_law_1044 dL_law_1045 (by omega) ?_
  refine Z_callVI (pc := 1046) ok dL_law_1046 cw_L_158 rfl rfl (by decide) (c_drop (xz_r _ _) (xz_r _ _) (fun i a b => (h.1.sh ⟨a, b⟩).1)) rfl rfl (by decide) (Nat.le_of_ble_eq_true rfl) (fun r I1 J1 hp => ?_)
  obtain ⟨mm, hm⟩ := o_drop h hp
  have p := h.mid mm
  refine Z_aload2 (pc := 1049) ok dL_law_1049 ?_
  refine Z_arg (pc := 1050) (k := 1) ok sk hL dL_law_1050 dL_law_1051 dL_law_1052 dL_law_1053 dL_law_1054 (by omega) ?_
  refine Z_arg (pc := 1055) (k := 2) ok sk hL dL_law_1055 dL_law_1056 dL_law_1057 dL_law_1058 dL_law_1059 (by omega) ?_
  refine Z_callVI (pc := 1060) ok dL_law_1060 cw_L_161 rfl rfl (by decide) (m_drop (xz_r _ _) (xz_r _ _) p.2.2.2.1) rfl rfl (by decide) (Nat.le_of_ble_eq_true rfl) (fun r2 I2 J2 hp2 => ?_)
  obtain ⟨e, h2⟩ := hm _ _ _ hp2
  exact Z_same (pc := 1063) (tgt := 1441) ok dL_law_1063 (by decide) e (kk _ _ h2)
theorem law_lightest (ok : Ok E G RL cL_law 4 44) (sk : Sk E b L xs) (hL : L ≤ 2560) (hi : 0 ≤ i ∧ i + 5 ≤ L) (h : Inv I J) (kk : ∀ I2 J2, Inv I2 J2 → Xz E G I2 J2 1441 [some (.ref b), some (zr G 0), some (zr G 121), some (zi i)] []) : Xz E G I J 1068 [some (.ref b), some (zr G 0), some (zr G 121), some (zi i)] [] := by
  refine Z_aload1 (pc := 1068) ok dL_law_1068 ?_
  refine Z_arg (pc := 1069) (k := 1) ok sk hL dL_law_1069 dL_law_1070 dL_law_1071 dL_law_1072 dL_law_1073 (by omega) ?_
  refine Z_callVI (pc := 1074) ok dL_law_1074 cw_L_162 rfl rfl (by decide) (c_lightest (xz_r _ _) (fun i a b => (h.1.sh ⟨a, b⟩).1)) rfl rfl (by decide) (Nat.le_of_ble_eq_true rfl) (fun r I1 J1 hp => ?_)
  obtain ⟨mm, hm⟩ := o_lightest h hp
  have p := h.mid mm
  refine Z_aload2 (pc := 1077) ok dL_law_1077 ?_
  refine Z_arg (pc := 1078) (k := 1) ok sk hL dL_law_1078 dL_law_1079 dL_law_1080 dL_law_1081 dL_law_1082 (by omega) ?_
  refine Z_callVI (pc := 1083) ok dL_law_1083 cw_L_165 rfl rfl (by decide) (m_lightest (xz_r _ _) p.2.2.2.1) rfl rfl (by decide) (Nat.le_of_ble_eq_true rfl) (fun r2 I2 J2 hp2 => ?_)
  obtain ⟨e, h2⟩ := hm _ _ _ hp2
  exact Z_same (pc := 1086) (tgt := 1441) ok dL_law_1086 (by decide) e (kk _ _ h2)
theorem law_pour (ok : Ok E G RL cL_law 4 44) (sk : Sk E b L xs) (hL : L ≤ 2560) (hi : 0 ≤ i ∧ i + 5 ≤ L) (h : Inv I J) (kk : ∀ I2 J2, Inv I2 J2 → Xz E G I2 J2 1441 [some (.ref b), some (zr G 0), some (zr G 121), some (zi i)] []) : Xz E G I J 1091 [some (.ref b), some (zr G 0), some (zr G 121), some (zi i)] [] := by
  refine Z_aload1 (pc := 1091) ok dL_law_1091 ?_
  refine Z_arg (pc := 1092) (k := 1) ok sk hL dL_law_1092 dL_law_1093 dL_law_1094 dL_law_1095 dL_law_1096 (by omega) ?_
  refine Z_arg (pc := 1097) (k := 2) ok sk hL dL_law_1097 dL_law_1098 dL_law_1099 dL_law_1100 dL_law_1101 (by omega) ?_
  refine Z_callVI (pc := 1102) ok dL_law_1102 cw_L_166 rfl rfl (by decide) (c_pour (xz_r _ _) (xz_r _ _) (fun i a b => (h.1.sh ⟨a, b⟩).1)) rfl rfl (by decide) (Nat.le_of_ble_eq_true rfl) (fun r I1 J1 hp => ?_)
  obtain ⟨mm, hm⟩ := o_pour h hp
  have p := h.mid mm
  refine Z_aload2 (pc := 1105) ok dL_law_1105 ?_
  refine Z_arg (pc := 1106) (k := 1) ok sk hL dL_law_1106 dL_law_1107 dL_law_1108 dL_law_1109 dL_law_1110 (by omega) ?_
  refine Z_arg (pc := 1111) (k := 2) ok sk hL dL_law_1111 dL_law_1112 dL_law_1113 dL_law_1114 dL_law_1115 (by omega) ?_
  refine Z_callVI (pc := 1116) ok dL_law_1116 cw_L_169 rfl rfl (by decide) (m_pour (xz_r _ _) (xz_r _ _) p.2.2.2.1) rfl rfl (by decide) (Nat.le_of_ble_eq_true rfl) (fun r2 I2 J2 hp2 => ?_)
  obtain ⟨e, h2⟩ := hm _ _ _ hp2
  exact Z_same (pc := 1119) (tgt := 1441) ok dL_law_1119 (by decide) e (kk _ _ h2)
theorem law_held (ok : Ok E G RL cL_law 4 44) (sk : Sk E b L xs) (hL : L ≤ 2560) (hi : 0 ≤ i ∧ i + 5 ≤ L) (h : Inv I J) (kk : ∀ I2 J2, Inv I2 J2 → Xz E G I2 J2 1441 [some (.ref b), some (zr G 0), some (zr G 121), some (zi i)] []) : Xz E G I J 1124 [some (.ref b), some (zr G 0), some (zr G 121), some (zi i)] [] := by
  refine Z_aload1 (pc := 1124) ok dL_law_1124 ?_
  refine Z_arg (pc := 1125) (k := 1) ok sk hL dL_law_1125 dL_law_1126 dL_law_1127 dL_law_1128 dL_law_1129 (by omega) ?_
  refine Z_arg (pc := 1130) (k := 2) ok sk hL dL_law_1130 dL_law_1131 dL_law_1132 dL_law_1133 dL_law_1134 (by omega) ?_
  refine Z_callVI (pc := 1135) ok dL_law_1135 cw_L_170 rfl rfl (by decide) (c_held (xz_r _ _) (xz_r _ _) (fun i a b => (h.1.sh ⟨a, b⟩).1)) rfl rfl (by decide) (Nat.le_of_ble_eq_true rfl) (fun r I1 J1 hp => ?_)
  obtain ⟨mm, hm⟩ := o_held h hp
  have p := h.mid mm
  refine Z_aload2 (pc := 1138) ok dL_law_1138 ?_
  refine Z_arg (pc := 1139) (k := 1) ok sk hL dL_law_1139 dL_law_1140 dL_law_1141 dL_law_1142 dL_law_1143 (by omega) ?_
  refine Z_arg (pc := 1144) (k := 2) ok sk hL dL_law_1144 dL_law_1145 dL_law_1146 dL_law_1147 dL_law_1148 (by omega) ?_
  refine Z_callVI (pc := 1149) ok dL_law_1149 cw_L_173 rfl rfl (by decide) (m_held (xz_r _ _) (xz_r _ _) p.2.2.2.1) rfl rfl (by decide) (Nat.le_of_ble_eq_true rfl) (fun r2 I2 J2 hp2 => ?_)
  obtain ⟨e, h2⟩ := hm _ _ _ hp2
  exact Z_same (pc := 1152) (tgt := 1441) ok dL_law_1152 (by decide) e (kk _ _ h2)
theorem law_list (ok : Ok E G RL cL_law 4 44) (sk : Sk E b L xs) (hL : L ≤ 2560) (hi : 0 ≤ i ∧ i + 5 ≤ L) (h : Inv I J) (kk : ∀ I2 J2, Inv I2 J2 → Xz E G I2 J2 1441 [some (.ref b), some (zr G 0), some (zr G 121), some (zi i)] []) : Xz E G I J 1157 [some (.ref b), some (zr G 0), some (zr G 121), some (zi i)] [] := by
  refine Z_aload1 (pc := 1157) ok dL_law_1157 ?_
  refine Z_arg (pc := 1158) (k := 1) ok sk hL dL_law_1158 dL_law_1159 dL_law_1160 dL_law_1161 dL_law_1162 (by omega) ?_
  refine Z_arg (pc := 1163) (k := 2) ok sk hL dL_law_1163 dL_law_1164 dL_law_1165 dL_law_1166 dL_law_1167 (by omega) ?_
  refine Z_callVI (pc := 1168) ok dL_law_1168 cw_L_174 rfl rfl (by decide) (c_list (xz_r _ _) (xz_r _ _)) rfl rfl (by decide) (Nat.le_of_ble_eq_true rfl) (fun r I1 J1 hp => ?_)
  obtain ⟨mm, hm⟩ := o_list h hp
  have p := h.mid mm
  refine Z_aload2 (pc := 1171) ok dL_law_1171 ?_
  refine Z_arg (pc := 1172) (k := 1) ok sk hL dL_law_1172 dL_law_1173 dL_law_1174 dL_law_1175 dL_law_1176 (by omega) ?_
  refine Z_arg (pc := 1177) (k := 2) ok sk hL dL_law_1177 dL_law_1178 dL_law_1179 dL_law_1180 dL_law_1181 (by omega) ?_
  refine Z_callVI (pc := 1182) ok dL_law_1182 cw_L_177 rfl rfl (by decide) (m_list (xz_r _ _) (xz_r _ _)) rfl rfl (by decide) (Nat.le_of_ble_eq_true rfl) (fun r2 I2 J2 hp2 => ?_)
  obtain ⟨e, h2⟩ := hm _ _ _ hp2
  exact Z_same (pc := 1185) (tgt := 1441) ok dL_law_1185 (by decide) e (kk _ _ h2)
theorem law_put (ok : Ok E G RL cL_law 4 44) (sk : Sk E b L xs) (hL : L ≤ 2560) (hi : 0 ≤ i ∧ i + 5 ≤ L) (h : Inv I J) (kk : ∀ I2 J2, Inv I2 J2 → Xz E G I2 J2 1441 [some (.ref b), some (zr G 0), some (zr G 121), some (zi i)] []) : Xz E G I J 1190 [some (.ref b), some (zr G 0), some (zr G 121), some (zi i)] [] := by
  refine Z_aload1 (pc := 1190) ok dL_law_1190 ?_
  refine Z_arg (pc := 1191) (k := 1) ok sk hL dL_law_1191 dL_law_1192 dL_law_1193 dL_law_1194 dL_law_1195 (by omega) ?_
  refine Z_arg (pc := 1196) (k := 2) ok sk hL dL_law_1196 dL_law_1197 dL_law_1198 dL_law_1199 dL_law_1200 (by omega) ?_
  refine Z_arg (pc := 1201) (k := 3) ok sk hL dL_law_1201 dL_law_1202 dL_law_1203 dL_law_1204 dL_law_1205 (by omega) ?_
  refine V_i2l (pc := 1206) ok dL_law_1206 ?_
  refine V_bipush (pc := 1207) (v := 32) ok dL_law_1207 (by decide) ?_
  refine V_lshl (pc := 1209) ok dL_law_1209 ?_
  refine Z_arg (pc := 1210) (k := 4) ok sk hL dL_law_1210 dL_law_1211 dL_law_1212 dL_law_1213 dL_law_1214 (by omega) ?_
  refine V_i2l (pc := 1215) ok dL_law_1215 ?_
  refine V_ldc2 (pc := 1216) (v := 4294967295) ok dL_law_1216 kw1387 ?_
  refine V_land (pc := 1219) ok dL_law_1219 ?_
  refine V_lor (pc := 1220) ok dL_law_1220 ?_
  refine Z_long ?_
  refine Z_callVI (pc := 1221) ok dL_law_1221 cw_L_180 rfl rfl (by decide) (c_put (xz_r _ _) (xz_r _ _) h.2.2.1.1) rfl rfl (by decide) (Nat.le_of_ble_eq_true rfl) (fun r I1 J1 hp => ?_)
  obtain ⟨mm, hm⟩ := o_put (lz_r _) h hp
  have p := h.mid mm
  refine Z_aload2 (pc := 1224) ok dL_law_1224 ?_
  refine Z_arg (pc := 1225) (k := 1) ok sk hL dL_law_1225 dL_law_1226 dL_law_1227 dL_law_1228 dL_law_1229 (by omega) ?_
  refine Z_arg (pc := 1230) (k := 2) ok sk hL dL_law_1230 dL_law_1231 dL_law_1232 dL_law_1233 dL_law_1234 (by omega) ?_
  refine Z_arg (pc := 1235) (k := 3) ok sk hL dL_law_1235 dL_law_1236 dL_law_1237 dL_law_1238 dL_law_1239 (by omega) ?_
  refine V_i2l (pc := 1240) ok dL_law_1240 ?_
  refine V_bipush (pc := 1241) (v := 32) ok dL_law_1241 (by decide) ?_
  refine V_lshl (pc := 1243) ok dL_law_1243 ?_
  refine Z_arg (pc := 1244) (k := 4) ok sk hL dL_law_1244 dL_law_1245 dL_law_1246 dL_law_1247 dL_law_1248 (by omega) ?_
  refine V_i2l (pc := 1249) ok dL_law_1249 ?_
  refine V_ldc2 (pc := 1250) (v := 4294967295) ok dL_law_1250 kw1387 ?_
  refine V_land (pc := 1253) ok dL_law_1253 ?_
  refine V_lor (pc := 1254) ok dL_law_1254 ?_
  refine Z_long ?_
  refine Z_callVI (pc := 1255) ok dL_law_1255 cw_L_184 rfl rfl (by decide) (m_put (xz_r _ _) (xz_r _ _) p.2.2.2.2.1) rfl rfl (by decide) (Nat.le_of_ble_eq_true rfl) (fun r2 I2 J2 hp2 => ?_)
  obtain ⟨e, h2⟩ := hm _ _ _ hp2
  exact Z_same (pc := 1258) (tgt := 1441) ok dL_law_1258 (by decide) e (kk _ _ h2)
theorem law_get (ok : Ok E G RL cL_law 4 44) (sk : Sk E b L xs) (hL : L ≤ 2560) (hi : 0 ≤ i ∧ i + 5 ≤ L) (h : Inv I J) (kk : ∀ I2 J2, Inv I2 J2 → Xz E G I2 J2 1441 [some (.ref b), some (zr G 0), some (zr G 121), some (zi i)] []) : Xz E G I J 1263 [some (.ref b), some (zr G 0), some (zr G 121), some (zi i)] [] := by
  refine Z_aload1 (pc := 1263) ok dL_law_1263 ?_
  refine Z_arg (pc := 1264) (k := 1) ok sk hL dL_law_1264 dL_law_1265 dL_law_1266 dL_law_1267 dL_law_1268 (by omega) ?_
  refine Z_arg (pc := 1269) (k := 2) ok sk hL dL_law_1269 dL_law_1270 dL_law_1271 dL_law_1272 dL_law_1273 (by omega) ?_
  refine Z_callVL (pc := 1274) ok dL_law_1274 cw_L_185 rfl rfl (by decide) (c_get (xz_r _ _) (xz_r _ _) h.2.2.1.1) rfl rfl (by decide) (Nat.le_of_ble_eq_true rfl) (fun r I1 J1 hp => ?_)
  obtain ⟨mm, hm⟩ := o_get h hp
  have p := h.mid mm
  refine Z_aload2 (pc := 1277) ok dL_law_1277 ?_
  refine Z_arg (pc := 1278) (k := 1) ok sk hL dL_law_1278 dL_law_1279 dL_law_1280 dL_law_1281 dL_law_1282 (by omega) ?_
  refine Z_arg (pc := 1283) (k := 2) ok sk hL dL_law_1283 dL_law_1284 dL_law_1285 dL_law_1286 dL_law_1287 (by omega) ?_
  refine Z_callVL (pc := 1288) ok dL_law_1288 cw_L_189 rfl rfl (by decide) (m_get (xz_r _ _) (xz_r _ _) p.2.2.2.2.1) rfl rfl (by decide) (Nat.le_of_ble_eq_true rfl) (fun r2 I2 J2 hp2 => ?_)
  obtain ⟨e, h2⟩ := hm _ _ _ hp2
  exact Z_sameL (pc := 1291) (tgt := 1441) ok dL_law_1291 dL_law_1292 (by decide) e (kk _ _ h2)
theorem law_film (ok : Ok E G RL cL_law 4 44) (sk : Sk E b L xs) (hL : L ≤ 2560) (hi : 0 ≤ i ∧ i + 5 ≤ L) (h : Inv I J) (kk : ∀ I2 J2, Inv I2 J2 → Xz E G I2 J2 1441 [some (.ref b), some (zr G 0), some (zr G 121), some (zi i)] []) : Xz E G I J 1297 [some (.ref b), some (zr G 0), some (zr G 121), some (zi i)] [] := by
  refine Z_aload1 (pc := 1297) ok dL_law_1297 ?_
  refine Z_arg (pc := 1298) (k := 1) ok sk hL dL_law_1298 dL_law_1299 dL_law_1300 dL_law_1301 dL_law_1302 (by omega) ?_
  refine Z_callVI (pc := 1303) ok dL_law_1303 cw_L_190 rfl rfl (by decide) (c_film (xz_r _ _) h.1.1.1) rfl rfl (by decide) (Nat.le_of_ble_eq_true rfl) (fun r I1 J1 hp => ?_)
  obtain ⟨mm, hm⟩ := o_film h hp
  have p := h.mid mm
  refine Z_aload2 (pc := 1306) ok dL_law_1306 ?_
  refine Z_arg (pc := 1307) (k := 1) ok sk hL dL_law_1307 dL_law_1308 dL_law_1309 dL_law_1310 dL_law_1311 (by omega) ?_
  refine Z_callVI (pc := 1312) ok dL_law_1312 cw_L_193 rfl rfl (by decide) (m_film (xz_r _ _) p.1) rfl rfl (by decide) (Nat.le_of_ble_eq_true rfl) (fun r2 I2 J2 hp2 => ?_)
  obtain ⟨e, h2⟩ := hm _ _ _ hp2
  exact Z_same (pc := 1315) (tgt := 1441) ok dL_law_1315 (by decide) e (kk _ _ h2)
theorem law_feed (ok : Ok E G RL cL_law 4 44) (sk : Sk E b L xs) (hL : L ≤ 2560) (hi : 0 ≤ i ∧ i + 5 ≤ L) (h : Inv I J) (kk : ∀ I2 J2, Inv I2 J2 → Xz E G I2 J2 1441 [some (.ref b), some (zr G 0), some (zr G 121), some (zi i)] []) : Xz E G I J 1320 [some (.ref b), some (zr G 0), some (zr G 121), some (zi i)] [] := by
  refine Z_aload1 (pc := 1320) ok dL_law_1320 ?_
  refine Z_arg (pc := 1321) (k := 1) ok sk hL dL_law_1321 dL_law_1322 dL_law_1323 dL_law_1324 dL_law_1325 (by omega) ?_
  refine Z_callVI (pc := 1326) ok dL_law_1326 cw_L_194 rfl rfl (by decide) (c_feed (xz_r _ _) h.2.2.2.1.1.1) rfl rfl (by decide) (Nat.le_of_ble_eq_true rfl) (fun r I1 J1 hp => ?_)
  obtain ⟨mm, hm⟩ := o_feed h hp
  have p := h.mid mm
  refine Z_aload2 (pc := 1329) ok dL_law_1329 ?_
  refine Z_arg (pc := 1330) (k := 1) ok sk hL dL_law_1330 dL_law_1331 dL_law_1332 dL_law_1333 dL_law_1334 (by omega) ?_
  refine Z_callVI (pc := 1335) ok dL_law_1335 cw_L_197 rfl rfl (by decide) (m_feed (xz_r _ _) p.2.2.2.2.2.1.1) rfl rfl (by decide) (Nat.le_of_ble_eq_true rfl) (fun r2 I2 J2 hp2 => ?_)
  obtain ⟨e, h2⟩ := hm _ _ _ hp2
  exact Z_same (pc := 1338) (tgt := 1441) ok dL_law_1338 (by decide) e (kk _ _ h2)
theorem law_wipe (ok : Ok E G RL cL_law 4 44) (sk : Sk E b L xs) (hL : L ≤ 2560) (hi : 0 ≤ i ∧ i + 5 ≤ L) (h : Inv I J) (kk : ∀ I2 J2, Inv I2 J2 → Xz E G I2 J2 1441 [some (.ref b), some (zr G 0), some (zr G 121), some (zi i)] []) : Xz E G I J 1343 [some (.ref b), some (zr G 0), some (zr G 121), some (zi i)] [] := by
  refine Z_aload1 (pc := 1343) ok dL_law_1343 ?_
  refine Z_callVId (pc := 1344) ok dL_law_1344 cw_L_198 rfl rfl (by decide) (c_wipe ) rfl rfl (by decide) (Nat.le_of_ble_eq_true rfl) ?_
  obtain ⟨mm, hm⟩ := o_wipe h ⟨rfl, rfl, rfl⟩
  have p := h.mid mm
  refine Z_aload2 (pc := 1347) ok dL_law_1347 ?_
  refine Z_callVId (pc := 1348) ok dL_law_1348 cw_L_201 rfl rfl (by decide) (m_wipe ) rfl rfl (by decide) (Nat.le_of_ble_eq_true rfl) ?_
  obtain ⟨e, h2⟩ := hm _ _ _ ⟨rfl, rfl, rfl⟩
  exact Z_same (pc := 1351) (tgt := 1441) ok dL_law_1351 (by decide) e (kk _ _ h2)
theorem law_read (ok : Ok E G RL cL_law 4 44) (sk : Sk E b L xs) (hL : L ≤ 2560) (hi : 0 ≤ i ∧ i + 5 ≤ L) (h : Inv I J) (kk : ∀ I2 J2, Inv I2 J2 → Xz E G I2 J2 1441 [some (.ref b), some (zr G 0), some (zr G 121), some (zi i)] []) : Xz E G I J 1356 [some (.ref b), some (zr G 0), some (zr G 121), some (zi i)] [] := by
  refine Z_aload1 (pc := 1356) ok dL_law_1356 ?_
  refine Z_callVI (pc := 1357) ok dL_law_1357 cw_L_202 rfl rfl (by decide) (c_read h.2.2.2.1.1) rfl rfl (by decide) (Nat.le_of_ble_eq_true rfl) (fun r I1 J1 hp => ?_)
  obtain ⟨mm, hm⟩ := o_read h hp
  have p := h.mid mm
  refine Z_aload2 (pc := 1360) ok dL_law_1360 ?_
  refine Z_callVI (pc := 1361) ok dL_law_1361 cw_L_205 rfl rfl (by decide) (m_read p.2.2.2.2.2.1) rfl rfl (by decide) (Nat.le_of_ble_eq_true rfl) (fun r2 I2 J2 hp2 => ?_)
  obtain ⟨e, h2⟩ := hm _ _ _ hp2
  exact Z_same (pc := 1364) (tgt := 1441) ok dL_law_1364 (by decide) e (kk _ _ h2)
theorem law_spelled (ok : Ok E G RL cL_law 4 44) (sk : Sk E b L xs) (hL : L ≤ 2560) (hi : 0 ≤ i ∧ i + 5 ≤ L) (h : Inv I J) (kk : ∀ I2 J2, Inv I2 J2 → Xz E G I2 J2 1441 [some (.ref b), some (zr G 0), some (zr G 121), some (zi i)] []) : Xz E G I J 1369 [some (.ref b), some (zr G 0), some (zr G 121), some (zi i)] [] := by
  refine Z_aload1 (pc := 1369) ok dL_law_1369 ?_
  refine Z_arg (pc := 1370) (k := 1) ok sk hL dL_law_1370 dL_law_1371 dL_law_1372 dL_law_1373 dL_law_1374 (by omega) ?_
  refine Z_callVI (pc := 1375) ok dL_law_1375 cw_L_206 rfl rfl (by decide) (c_spelled (xz_r _ _) h.1.1.1) rfl rfl (by decide) (Nat.le_of_ble_eq_true rfl) (fun r I1 J1 hp => ?_)
  obtain ⟨mm, hm⟩ := o_spelled h hp
  have p := h.mid mm
  refine Z_aload2 (pc := 1378) ok dL_law_1378 ?_
  refine Z_arg (pc := 1379) (k := 1) ok sk hL dL_law_1379 dL_law_1380 dL_law_1381 dL_law_1382 dL_law_1383 (by omega) ?_
  refine Z_callVI (pc := 1384) ok dL_law_1384 cw_L_209 rfl rfl (by decide) (m_spelled (xz_r _ _) p.1) rfl rfl (by decide) (Nat.le_of_ble_eq_true rfl) (fun r2 I2 J2 hp2 => ?_)
  obtain ⟨e, h2⟩ := hm _ _ _ hp2
  exact Z_same (pc := 1387) (tgt := 1441) ok dL_law_1387 (by decide) e (kk _ _ h2)
theorem law_image (ok : Ok E G RL cL_law 4 44) (sk : Sk E b L xs) (hL : L ≤ 2560) (hi : 0 ≤ i ∧ i + 5 ≤ L) (h : Inv I J) (kk : ∀ I2 J2, Inv I2 J2 → Xz E G I2 J2 1441 [some (.ref b), some (zr G 0), some (zr G 121), some (zi i)] []) : Xz E G I J 1392 [some (.ref b), some (zr G 0), some (zr G 121), some (zi i)] [] := by
  refine Z_aload1 (pc := 1392) ok dL_law_1392 ?_
  refine Z_callVI (pc := 1393) ok dL_law_1393 cw_L_210 rfl rfl (by decide) (c_image h.1.1.1 h.1.2.2.1.1.1 h.1.2.2.2.1.1) rfl rfl (by decide) (Nat.le_of_ble_eq_true rfl) (fun r I1 J1 hp => ?_)
  obtain ⟨mm, hm⟩ := o_image h hp
  have p := h.mid mm
  refine Z_aload2 (pc := 1396) ok dL_law_1396 ?_
  refine Z_callVId (pc := 1397) ok dL_law_1397 cw_L_213 rfl rfl (by decide) (m_image p.1.1) rfl rfl (by decide) (Nat.le_of_ble_eq_true rfl) ?_
  obtain ⟨e, h2⟩ := hm _ _ _ ⟨rfl, rfl, rfl⟩
  exact Z_same (pc := 1400) (tgt := 1441) ok dL_law_1400 (by decide) e (kk _ _ h2)
theorem law_undo (ok : Ok E G RL cL_law 4 44) (sk : Sk E b L xs) (hL : L ≤ 2560) (hi : 0 ≤ i ∧ i + 5 ≤ L) (h : Inv I J) (kk : ∀ I2 J2, Inv I2 J2 → Xz E G I2 J2 1441 [some (.ref b), some (zr G 0), some (zr G 121), some (zi i)] []) : Xz E G I J 1405 [some (.ref b), some (zr G 0), some (zr G 121), some (zi i)] [] := by
  refine Z_aload1 (pc := 1405) ok dL_law_1405 ?_
  refine Z_callVI (pc := 1406) ok dL_law_1406 cw_L_214 rfl rfl (by decide) (c_undo h.2.1.1 h.2.1.2.2.1 h.2.1.2.2.2.1 h.2.1.2.2.2.2.1) rfl rfl (by decide) (Nat.le_of_ble_eq_true rfl) (fun r I1 J1 hp => ?_)
  obtain ⟨mm, hm⟩ := o_undo h hp
  have p := h.mid mm
  refine Z_aload2 (pc := 1409) ok dL_law_1409 ?_
  refine Z_callVI (pc := 1410) ok dL_law_1410 cw_L_217 rfl rfl (by decide) (m_undo p.2.2.2.2.2.2.1 p.2.2.2.2.2.2.2) rfl rfl (by decide) (Nat.le_of_ble_eq_true rfl) (fun r2 I2 J2 hp2 => ?_)
  obtain ⟨e, h2⟩ := hm _ _ _ hp2
  exact Z_same (pc := 1413) (tgt := 1441) ok dL_law_1413 (by decide) e (kk _ _ h2)
theorem law_count (ok : Ok E G RL cL_law 4 44) (sk : Sk E b L xs) (hL : L ≤ 2560) (hi : 0 ≤ i ∧ i + 5 ≤ L) (h : Inv I J) (kk : ∀ I2 J2, Inv I2 J2 → Xz E G I2 J2 1441 [some (.ref b), some (zr G 0), some (zr G 121), some (zi i)] []) : Xz E G I J 1418 [some (.ref b), some (zr G 0), some (zr G 121), some (zi i)] [] := by
  refine Z_aload1 (pc := 1418) ok dL_law_1418 ?_
  refine Z_arg (pc := 1419) (k := 1) ok sk hL dL_law_1419 dL_law_1420 dL_law_1421 dL_law_1422 dL_law_1423 (by omega) ?_
  refine Z_callVI (pc := 1424) ok dL_law_1424 cw_L_218 rfl rfl (by decide) (c_count (xz_r _ _) h.1.1.1 h.2.2.1.1) rfl rfl (by decide) (Nat.le_of_ble_eq_true rfl) (fun r I1 J1 hp => ?_)
  obtain ⟨mm, hm⟩ := o_count h hp
  have p := h.mid mm
  refine Z_aload2 (pc := 1427) ok dL_law_1427 ?_
  refine Z_arg (pc := 1428) (k := 1) ok sk hL dL_law_1428 dL_law_1429 dL_law_1430 dL_law_1431 dL_law_1432 (by omega) ?_
  refine Z_callVI (pc := 1433) ok dL_law_1433 cw_L_221 rfl rfl (by decide) (m_count (xz_r _ _) p.1 p.2.2.2.2.1) rfl rfl (by decide) (Nat.le_of_ble_eq_true rfl) (fun r2 I2 J2 hp2 => ?_)
  obtain ⟨e, h2⟩ := hm _ _ _ hp2
  exact Z_same (pc := 1436) (tgt := 1441) ok dL_law_1436 (by decide) e (kk _ _ h2)
theorem law_step (ok : Ok E G RL cL_law 4 44) (sk : Sk E b L xs) (hL : L ≤ 2560) (hi : 0 ≤ i ∧ i + 5 ≤ L) (h : Inv I J) (kk : ∀ I2 J2, Inv I2 J2 → Xz E G I2 J2 1441 [some (.ref b), some (zr G 0), some (zr G 121), some (zi i)] []) {r : Int} (hr : 0 ≤ r ∧ r < 64) : Xz E G I J 32 [some (.ref b), some (zr G 0), some (zr G 121), some (zi i)] [zi r] := by
  by_cases h50 : 50 ≤ r
  · exact Z_tabO (pc := 32) (tgt := 1441) ok dL_law_32 (by omega) (by omega) (by decide) (kk I J h)
  · have hc : r = 0 ∨ r = 1 ∨ r = 2 ∨ r = 3 ∨ r = 4 ∨ r = 5 ∨ r = 6 ∨ r = 7 ∨ r = 8 ∨ r = 9 ∨ r = 10 ∨ r = 11 ∨ r = 12 ∨ r = 13 ∨ r = 14 ∨ r = 15 ∨ r = 16 ∨ r = 17 ∨ r = 18 ∨ r = 19 ∨ r = 20 ∨ r = 21 ∨ r = 22 ∨ r = 23 ∨ r = 24 ∨ r = 25 ∨ r = 26 ∨ r = 27 ∨ r = 28 ∨ r = 29 ∨ r = 30 ∨ r = 31 ∨ r = 32 ∨ r = 33 ∨ r = 34 ∨ r = 35 ∨ r = 36 ∨ r = 37 ∨ r = 38 ∨ r = 39 ∨ r = 40 ∨ r = 41 ∨ r = 42 ∨ r = 43 ∨ r = 44 ∨ r = 45 ∨ r = 46 ∨ r = 47 ∨ r = 48 ∨ r = 49 := by omega
    rcases hc with rfl | rfl | rfl | rfl | rfl | rfl | rfl | rfl | rfl | rfl | rfl | rfl | rfl | rfl | rfl | rfl | rfl | rfl | rfl | rfl | rfl | rfl | rfl | rfl | rfl | rfl | rfl | rfl | rfl | rfl | rfl | rfl | rfl | rfl | rfl | rfl | rfl | rfl | rfl | rfl | rfl | rfl | rfl | rfl | rfl | rfl | rfl | rfl | rfl | rfl
    · exact Z_tabI (pc := 32) (off := 216) (tgt := 248) ok dL_law_32 (by decide) (by decide) (by decide) rfl rfl (law_base ok sk hL hi h kk)
    · exact Z_tabI (pc := 32) (off := 239) (tgt := 271) ok dL_law_32 (by decide) (by decide) (by decide) rfl rfl (law_set ok sk hL hi h kk)
    · exact Z_tabI (pc := 32) (off := 272) (tgt := 304) ok dL_law_32 (by decide) (by decide) (by decide) rfl rfl (law_add ok sk hL hi h kk)
    · exact Z_tabI (pc := 32) (off := 295) (tgt := 327) ok dL_law_32 (by decide) (by decide) (by decide) rfl rfl (law_of ok sk hL hi h kk)
    · exact Z_tabI (pc := 32) (off := 318) (tgt := 350) ok dL_law_32 (by decide) (by decide) (by decide) rfl rfl (law_weight ok sk hL hi h kk)
    · exact Z_tabI (pc := 32) (off := 331) (tgt := 363) ok dL_law_32 (by decide) (by decide) (by decide) rfl rfl (law_clear ok sk hL hi h kk)
    · exact Z_tabI (pc := 32) (off := 344) (tgt := 376) ok dL_law_32 (by decide) (by decide) (by decide) rfl rfl (law_phi ok sk hL hi h kk)
    · exact Z_tabI (pc := 32) (off := 368) (tgt := 400) ok dL_law_32 (by decide) (by decide) (by decide) rfl rfl (law_rest ok sk hL hi h kk)
    · exact Z_tabI (pc := 32) (off := 392) (tgt := 424) ok dL_law_32 (by decide) (by decide) (by decide) rfl rfl (law_nought ok sk hL hi h kk)
    · exact Z_tabI (pc := 32) (off := 405) (tgt := 437) ok dL_law_32 (by decide) (by decide) (by decide) rfl rfl (law_primitive ok sk hL hi h kk)
    · exact Z_tabI (pc := 32) (off := 418) (tgt := 450) ok dL_law_32 (by decide) (by decide) (by decide) rfl rfl (law_parts ok sk hL hi h kk)
    · exact Z_tabI (pc := 32) (off := 441) (tgt := 473) ok dL_law_32 (by decide) (by decide) (by decide) rfl rfl (law_part ok sk hL hi h kk)
    · exact Z_tabI (pc := 32) (off := 464) (tgt := 496) ok dL_law_32 (by decide) (by decide) (by decide) rfl rfl (law_take ok sk hL hi h kk)
    · exact Z_tabI (pc := 32) (off := 477) (tgt := 509) ok dL_law_32 (by decide) (by decide) (by decide) rfl rfl (law_pieces ok sk hL hi h kk)
    · exact Z_tabI (pc := 32) (off := 490) (tgt := 522) ok dL_law_32 (by decide) (by decide) (by decide) rfl rfl (law_turn ok sk hL hi h kk)
    · exact Z_tabI (pc := 32) (off := 513) (tgt := 545) ok dL_law_32 (by decide) (by decide) (by decide) rfl rfl (law_times ok sk hL hi h kk)
    · exact Z_tabI (pc := 32) (off := 536) (tgt := 568) ok dL_law_32 (by decide) (by decide) (by decide) rfl rfl (law_mirror ok sk hL hi h kk)
    · exact Z_tabI (pc := 32) (off := 549) (tgt := 581) ok dL_law_32 (by decide) (by decide) (by decide) rfl rfl (law_raise ok sk hL hi h kk)
    · exact Z_tabI (pc := 32) (off := 572) (tgt := 604) ok dL_law_32 (by decide) (by decide) (by decide) rfl rfl (law_stays ok sk hL hi h kk)
    · exact Z_tabI (pc := 32) (off := 595) (tgt := 627) ok dL_law_32 (by decide) (by decide) (by decide) rfl rfl (law_best ok sk hL hi h kk)
    · exact Z_tabI (pc := 32) (off := 608) (tgt := 640) ok dL_law_32 (by decide) (by decide) (by decide) rfl rfl (law_alike ok sk hL hi h kk)
    · exact Z_tabI (pc := 32) (off := 631) (tgt := 663) ok dL_law_32 (by decide) (by decide) (by decide) rfl rfl (law_prime ok sk hL hi h kk)
    · exact Z_tabI (pc := 32) (off := 654) (tgt := 686) ok dL_law_32 (by decide) (by decide) (by decide) rfl rfl (law_layer ok sk hL hi h kk)
    · exact Z_tabI (pc := 32) (off := 697) (tgt := 729) ok dL_law_32 (by decide) (by decide) (by decide) rfl rfl (law_layers ok sk hL hi h kk)
    · exact Z_tabI (pc := 32) (off := 730) (tgt := 762) ok dL_law_32 (by decide) (by decide) (by decide) rfl rfl (law_possible ok sk hL hi h kk)
    · exact Z_tabI (pc := 32) (off := 753) (tgt := 785) ok dL_law_32 (by decide) (by decide) (by decide) rfl rfl (law_ways ok sk hL hi h kk)
    · exact Z_tabI (pc := 32) (off := 776) (tgt := 808) ok dL_law_32 (by decide) (by decide) (by decide) rfl rfl (law_hole ok sk hL hi h kk)
    · exact Z_tabI (pc := 32) (off := 799) (tgt := 831) ok dL_law_32 (by decide) (by decide) (by decide) rfl rfl (law_listed ok sk hL hi h kk)
    · exact Z_tabI (pc := 32) (off := 832) (tgt := 864) ok dL_law_32 (by decide) (by decide) (by decide) rfl rfl (law_filled ok sk hL hi h kk)
    · exact Z_tabI (pc := 32) (off := 865) (tgt := 897) ok dL_law_32 (by decide) (by decide) (by decide) rfl rfl (law_plan ok sk hL hi h kk)
    · exact Z_tabI (pc := 32) (off := 898) (tgt := 930) ok dL_law_32 (by decide) (by decide) (by decide) rfl rfl (law_unplan ok sk hL hi h kk)
    · exact Z_tabI (pc := 32) (off := 911) (tgt := 943) ok dL_law_32 (by decide) (by decide) (by decide) rfl rfl (law_where ok sk hL hi h kk)
    · exact Z_tabI (pc := 32) (off := 934) (tgt := 966) ok dL_law_32 (by decide) (by decide) (by decide) rfl rfl (law_run ok sk hL hi h kk)
    · exact Z_tabI (pc := 32) (off := 947) (tgt := 979) ok dL_law_32 (by decide) (by decide) (by decide) rfl rfl (law_keep ok sk hL hi h kk)
    · exact Z_tabI (pc := 32) (off := 970) (tgt := 1002) ok dL_law_32 (by decide) (by decide) (by decide) rfl rfl (law_lay ok sk hL hi h kk)
    · exact Z_tabI (pc := 32) (off := 1003) (tgt := 1035) ok dL_law_32 (by decide) (by decide) (by decide) rfl rfl (law_drop ok sk hL hi h kk)
    · exact Z_tabI (pc := 32) (off := 1036) (tgt := 1068) ok dL_law_32 (by decide) (by decide) (by decide) rfl rfl (law_lightest ok sk hL hi h kk)
    · exact Z_tabI (pc := 32) (off := 1059) (tgt := 1091) ok dL_law_32 (by decide) (by decide) (by decide) rfl rfl (law_pour ok sk hL hi h kk)
    · exact Z_tabI (pc := 32) (off := 1092) (tgt := 1124) ok dL_law_32 (by decide) (by decide) (by decide) rfl rfl (law_held ok sk hL hi h kk)
    · exact Z_tabI (pc := 32) (off := 1125) (tgt := 1157) ok dL_law_32 (by decide) (by decide) (by decide) rfl rfl (law_list ok sk hL hi h kk)
    · exact Z_tabI (pc := 32) (off := 1158) (tgt := 1190) ok dL_law_32 (by decide) (by decide) (by decide) rfl rfl (law_put ok sk hL hi h kk)
    · exact Z_tabI (pc := 32) (off := 1231) (tgt := 1263) ok dL_law_32 (by decide) (by decide) (by decide) rfl rfl (law_get ok sk hL hi h kk)
    · exact Z_tabI (pc := 32) (off := 1265) (tgt := 1297) ok dL_law_32 (by decide) (by decide) (by decide) rfl rfl (law_film ok sk hL hi h kk)
    · exact Z_tabI (pc := 32) (off := 1288) (tgt := 1320) ok dL_law_32 (by decide) (by decide) (by decide) rfl rfl (law_feed ok sk hL hi h kk)
    · exact Z_tabI (pc := 32) (off := 1311) (tgt := 1343) ok dL_law_32 (by decide) (by decide) (by decide) rfl rfl (law_wipe ok sk hL hi h kk)
    · exact Z_tabI (pc := 32) (off := 1324) (tgt := 1356) ok dL_law_32 (by decide) (by decide) (by decide) rfl rfl (law_read ok sk hL hi h kk)
    · exact Z_tabI (pc := 32) (off := 1337) (tgt := 1369) ok dL_law_32 (by decide) (by decide) (by decide) rfl rfl (law_spelled ok sk hL hi h kk)
    · exact Z_tabI (pc := 32) (off := 1360) (tgt := 1392) ok dL_law_32 (by decide) (by decide) (by decide) rfl rfl (law_image ok sk hL hi h kk)
    · exact Z_tabI (pc := 32) (off := 1373) (tgt := 1405) ok dL_law_32 (by decide) (by decide) (by decide) rfl rfl (law_undo ok sk hL hi h kk)
    · exact Z_tabI (pc := 32) (off := 1386) (tgt := 1418) ok dL_law_32 (by decide) (by decide) (by decide) rfl rfl (law_count ok sk hL hi h kk)
/-- the loop: from its head, with the invariant, to the end -/
theorem law_loop (ok : Ok E G RL cL_law 4 44) (sk : Sk E b L xs) (hL : L ≤ 2560) (kk : ∀ I2 J2 lo2, Xz E G I2 J2 1447 lo2 []) : ∀ (f : Nat) (i : Int) (I J : Mz), 0 ≤ i → i ≤ (L : Int) → (L : Int) - i < f → Inv I J → Xz E G I J 18 [some (.ref b), some (zr G 0), some (zr G 121), some (zi i)] [] := by
  intro f
  induction f with
  | zero => intro i I J h0 h1 h2; omega
  | succ f ih =>
    intro i I J h0 h1 h2 h
    refine Z_iload3 (pc := 18) ok dL_law_18 ?_
    refine V_aload0 (pc := 19) ok dL_law_19 ?_
    refine Z_slen (pc := 20) ok sk dL_law_20 ?_
    refine Z_iconst (pc := 21) ok dL_law_21 ?_
    refine Z_isub (pc := 22) ok dL_law_22 ?_
    refine Z_icmp_gt (pc := 23) (tgt := 1447) ok dL_law_23 rfl (by omega) (by omega) (fun _ => kk _ _ _) (fun q => ?_)
    refine V_aload0 (pc := 26) ok dL_law_26 ?_
    refine Z_iload3 (pc := 27) ok dL_law_27 ?_
    refine Z_sld (pc := 28) ok sk hL (by omega) dL_law_28 ?_
    refine V_bipush (pc := 29) (v := 63) ok dL_law_29 (by decide) ?_
    refine V_iand (pc := 31) ok dL_law_31 ?_
    obtain ⟨r, hr, er⟩ := and63 (Int32.ofInt (xz xs i))
    rw [er]
    refine law_step ok sk hL (i := i) (by omega) h (fun I2 J2 h3 => ?_) hr
    refine Z_iinc3 (pc := 1441) ok (by decide) dL_law_1441 rfl ?_
    refine Z_goto (pc := 1444) (tgt := 18) ok dL_law_1444 rfl ?_
    exact ih (i + 5) I2 J2 (by omega) (by omega) (by omega) h3
end
