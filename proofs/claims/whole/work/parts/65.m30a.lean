set_option maxHeartbeats 1000000 in
theorem k_0 {X : Cx} {kc ks : Nat} (hl : (xl X).stackTraces = false) (C : Ok SS MM X RL cL_law 9 30 kc ks) {b L : Nat} {w : Nat → Int32} (Z : Lok X b L w) {h : Nat → Nat} {j : Nat} (hj : 6 * j + 6 ≤ L) (hL : L ≤ 3072) {c : Cg} {o : Nat → Int64} {dd : Nat → UInt64} {q : G} (I : INV (20 + j) c q) {k n : Nat} (hk : k + 6 ≤ kc) (hn : n + 36 ≤ ks) (back : ∀ c2 o2 d2 q2, INV (20 + j + 1) c2 q2 → V X (lS (xK X) h) 3915 [some (.ref b), some (.ref (h 0)), some (.ref (sh 126 h 0)), some (.ref (h 124)), some (.ref (h 125)), some (.int (nI (6 * j))), none, none, none] [] (c2, o2, d2, q2) (k + 6) (n + 36)) : V X (lS (xK X) h) 316 [some (.ref b), some (.ref (h 0)), some (.ref (sh 126 h 0)), some (.ref (h 124)), some (.ref (h 125)), some (.int (nI (6 * j))), none, none, none] [] (c, o, dd, q) k n := by
  refine v_aload_n C dL_law_316 rfl ?_
  refine v_aload_n C dL_law_317 rfl ?_
  refine v_iload C dL_law_318 rfl ?_
  refine v_iconst C dL_law_320 (v := nI 1) (by decide) ?_
  refine v_iaddN C dL_law_321 ?_
  refine v_sld C Z (6 * j + 1) rfl (by omega) hL dL_law_322 ?_
  refine v_aload_n C dL_law_323 rfl ?_
  refine v_iload C dL_law_324 rfl ?_
  refine v_iconst C dL_law_326 (v := nI 2) (by decide) ?_
  refine v_iaddN C dL_law_327 ?_
  refine v_sld C Z (6 * j + 2) rfl (by omega) hL dL_law_328 ?_
  refine v_aload_n C dL_law_329 rfl ?_
  refine v_iload C dL_law_330 rfl ?_
  refine v_iconst C dL_law_332 (v := nI 3) (by decide) ?_
  refine v_iaddN C dL_law_333 ?_
  refine v_sld C Z (6 * j + 3) rfl (by omega) hL dL_law_334 ?_
  refine v_aload_n C dL_law_335 rfl ?_
  refine v_iload C dL_law_336 rfl ?_
  refine v_iconst C dL_law_338 (v := nI 4) (by decide) ?_
  refine v_iaddN C dL_law_339 ?_
  refine v_sld C Z (6 * j + 4) rfl (by omega) hL dL_law_340 ?_
  refine v_aload_n C dL_law_341 rfl ?_
  refine v_iload C dL_law_342 rfl ?_
  refine v_iconst C dL_law_344 (v := nI 5) (by decide) ?_
  refine v_iaddN C dL_law_345 ?_
  refine v_sld C Z (6 * j + 5) rfl (by omega) hL dL_law_346 ?_
  obtain ⟨dM, dq, post, pq, ⟨a1, a4⟩, M, Mq, J⟩ := z_append hl (κ := xK X) (h := h) I (w (6 * j + 1)) (w (6 * j + 2)) (w (6 * j + 3)) (w (6 * j + 4)) (w (6 * j + 5))
  refine v_callVi C M ym_X5_append ml_L_200 emb_l_c rfl rfl rfl rfl rfl dL_law_347 (by omega) (by omega) (by omega) (Nat.le_of_ble_eq_true rfl) (fun _ _ hz => hz.elim) (fun v c2 hp => ?_)
  refine v_aload_n C dL_law_350 rfl ?_
  refine v_aload_n C dL_law_351 rfl ?_
  refine v_iload C dL_law_352 rfl ?_
  refine v_iconst C dL_law_354 (v := nI 1) (by decide) ?_
  refine v_iaddN C dL_law_355 ?_
  refine v_sld C Z (6 * j + 1) rfl (by omega) hL dL_law_356 ?_
  refine v_aload_n C dL_law_357 rfl ?_
  refine v_iload C dL_law_358 rfl ?_
  refine v_iconst C dL_law_360 (v := nI 2) (by decide) ?_
  refine v_iaddN C dL_law_361 ?_
  refine v_sld C Z (6 * j + 2) rfl (by omega) hL dL_law_362 ?_
  refine v_aload_n C dL_law_363 rfl ?_
  refine v_iload C dL_law_364 rfl ?_
  refine v_iconst C dL_law_366 (v := nI 3) (by decide) ?_
  refine v_iaddN C dL_law_367 ?_
  refine v_sld C Z (6 * j + 3) rfl (by omega) hL dL_law_368 ?_
  refine v_aload_n C dL_law_369 rfl ?_
  refine v_iload C dL_law_370 rfl ?_
  refine v_iconst C dL_law_372 (v := nI 4) (by decide) ?_
  refine v_iaddN C dL_law_373 ?_
  refine v_sld C Z (6 * j + 4) rfl (by omega) hL dL_law_374 ?_
  refine v_aload_n C dL_law_375 rfl ?_
  refine v_iload C dL_law_376 rfl ?_
  refine v_iconst C dL_law_378 (v := nI 5) (by decide) ?_
  refine v_iaddN C dL_law_379 ?_
  refine v_sld C Z (6 * j + 5) rfl (by omega) hL dL_law_380 ?_
  refine v_callVi C Mq ym_X6_append ml_L_204 emb_l_q rfl rfl rfl rfl rfl dL_law_381 (by omega) (by omega) (by omega) (Nat.le_of_ble_eq_true rfl) (fun _ _ hz => hz.elim) (fun r2 u2 hq => ?_)
  obtain ⟨rfl, hIV⟩ := J _ _ _ _ hp hq
  refine V.stt (g2 := (c2, o, dd, u2)) rfl ?_
  refine v_icmp_eq C 3915 dL_law_384 (by decide) (fun _ => ?_) (fun z => absurd rfl z)
  refine V.sub (lo2 := [some (.ref b), some (.ref (h 0)), some (.ref (sh 126 h 0)), some (.ref (h 124)), some (.ref (h 125)), some (.int (nI (6 * j))), none, none, none]) ⟨rfl, rfl, rfl, rfl, rfl, rfl, trivial⟩ ?_
  exact V.widen (by omega) (by omega) (back _ _ _ _ hIV)
set_option maxHeartbeats 1000000 in
theorem k_1 {X : Cx} {kc ks : Nat} (hl : (xl X).stackTraces = false) (C : Ok SS MM X RL cL_law 9 30 kc ks) {b L : Nat} {w : Nat → Int32} (Z : Lok X b L w) {h : Nat → Nat} {j : Nat} (hj : 6 * j + 6 ≤ L) (hL : L ≤ 3072) {c : Cg} {o : Nat → Int64} {dd : Nat → UInt64} {q : G} (I : INV (20 + j) c q) {k n : Nat} (hk : k + 6 ≤ kc) (hn : n + 36 ≤ ks) (back : ∀ c2 o2 d2 q2, INV (20 + j + 1) c2 q2 → V X (lS (xK X) h) 3915 [some (.ref b), some (.ref (h 0)), some (.ref (sh 126 h 0)), some (.ref (h 124)), some (.ref (h 125)), some (.int (nI (6 * j))), none, none, none] [] (c2, o2, d2, q2) (k + 6) (n + 36)) : V X (lS (xK X) h) 389 [some (.ref b), some (.ref (h 0)), some (.ref (sh 126 h 0)), some (.ref (h 124)), some (.ref (h 125)), some (.int (nI (6 * j))), none, none, none] [] (c, o, dd, q) k n := by
  refine v_aload_n C dL_law_389 rfl ?_
  refine v_aload_n C dL_law_390 rfl ?_
  refine v_iload C dL_law_391 rfl ?_
  refine v_iconst C dL_law_393 (v := nI 1) (by decide) ?_
  refine v_iaddN C dL_law_394 ?_
  refine v_sld C Z (6 * j + 1) rfl (by omega) hL dL_law_395 ?_
  refine v_aload_n C dL_law_396 rfl ?_
  obtain ⟨dM, mc, ms, dq, post, px, pq, ⟨a1, a2, a3, a4⟩, M, Mq, hE, ⟨J1, J2⟩, hP⟩ := s_load hl (κ := xK X) (h := h) (by omega) I (w (6 * j + 1))
  refine v_callSH C (hc_load hl (κ := xK X) (h := h) (c := c) (o := o) (dd := dd) (q := q) a1 a2 a3 M hE) ysh_L_load rfl ml_L_205 emb_id_lS rfl rfl rfl dL_law_397 (Nat.le_of_ble_eq_true rfl) hk hn (Nat.le_of_ble_eq_true rfl) (fun _ _ hz => hz.elim) (fun r u hu => ?_)
  rcases hu with ⟨v, c2, hp, rfl, rfl⟩ | ⟨e, c2, i, hp, hi, rfl, rfl⟩
  · skip
    refine v_istore C dL_law_400 rfl (Nat.le_of_ble_eq_true rfl) rfl ?_
    refine v_aload_n C dL_law_402 rfl ?_
    refine v_aload_n C dL_law_403 rfl ?_
    refine v_iload C dL_law_404 rfl ?_
    refine v_iconst C dL_law_406 (v := nI 1) (by decide) ?_
    refine v_iaddN C dL_law_407 ?_
    refine v_sld C Z (6 * j + 1) rfl (by omega) hL dL_law_408 ?_
    refine v_callVi C Mq ym_X6_load ml_L_210 emb_l_q rfl rfl rfl rfl rfl dL_law_409 (by omega) (by omega) (by omega) (Nat.le_of_ble_eq_true rfl) (fun _ _ hz => hz.elim) (fun r2 u2 hq => ?_)
    obtain ⟨t0, rfl, hIV⟩ := J1 _ _ _ _ hp hq
    refine V.stt (g2 := (c2, vp_updL o 0 (cvI v), dd, u2)) rfl ?_
    refine v_istore C dL_law_412 rfl (Nat.le_of_ble_eq_true rfl) rfl ?_
    refine v_aload_n C dL_law_414 rfl ?_
    refine v_callVi C (c_X6_thrown hl t0) ym_X6_thrown ml_L_211 emb_l_q rfl rfl rfl rfl rfl dL_law_415 (Nat.le_of_ble_eq_true rfl) (by omega) (by omega) (Nat.le_of_ble_eq_true rfl) (fun _ _ hz => hz.elim) (fun r3 u3 hr => ?_)
    obtain ⟨hr, rfl⟩ := hr
    subst hr
    refine V.stt (g2 := (c2, vp_updL o 0 (cvI v), dd, u3)) rfl ?_
    refine v_iload C dL_law_418 rfl ?_
    refine v_icmp_eq C 425 dL_law_420 (by decide) (fun _ => ?_) (fun z => absurd rfl z)
    refine v_iload C dL_law_425 rfl ?_
    refine v_if_ne C 442 dL_law_427 (by decide) (fun z => absurd (by decide) z) (fun _ => ?_)
    refine v_aload_n C dL_law_430 rfl ?_
    refine v_iconst C dL_law_431 (v := nI 0) (by decide) ?_
    refine v_lald C aj_l (by decide) 0 (by decide) rfl dL_law_432 ?_
    refine v_iload C dL_law_433 rfl ?_
    refine v_i2l C dL_law_435 rfl ?_
    refine v_lcmp C dL_law_436 ?_
    refine v_if_eq C 442 dL_law_437 (by decide) (fun _ => ?_) (fun z => absurd (lg_out (o := o) (x := cvI v) (y := v.toInt64) rfl) z)
    refine v_goto C 3915 dL_law_442 (by decide) ?_
    refine V.sub (lo2 := [some (.ref b), some (.ref (h 0)), some (.ref (sh 126 h 0)), some (.ref (h 124)), some (.ref (h 125)), some (.int (nI (6 * j))), none, none, none]) ⟨rfl, rfl, rfl, rfl, rfl, rfl, trivial⟩ ?_
    exact back _ _ _ _ hIV
  · skip
    refine v_istore C dL_law_400 rfl (Nat.le_of_ble_eq_true rfl) rfl ?_
    refine v_aload_n C dL_law_402 rfl ?_
    refine v_aload_n C dL_law_403 rfl ?_
    refine v_iload C dL_law_404 rfl ?_
    refine v_iconst C dL_law_406 (v := nI 1) (by decide) ?_
    refine v_iaddN C dL_law_407 ?_
    refine v_sld C Z (6 * j + 1) rfl (by omega) hL dL_law_408 ?_
    refine v_callVi C Mq ym_X6_load ml_L_210 emb_l_q rfl rfl rfl rfl rfl dL_law_409 (by omega) (by omega) (by omega) (Nat.le_of_ble_eq_true rfl) (fun _ _ hz => hz.elim) (fun r2 u2 hq => ?_)
    obtain ⟨i2, h2, hi3, t0, hIV⟩ := J2 _ _ _ _ hp hq
    obtain rfl := EL_inj nd_OA hi h2
    refine V.stt (g2 := (c2, o, dd, u2)) rfl ?_
    refine v_istore C dL_law_412 rfl (Nat.le_of_ble_eq_true rfl) rfl ?_
    refine v_aload_n C dL_law_414 rfl ?_
    refine v_callVi C (c_X6_thrown hl t0) ym_X6_thrown ml_L_211 emb_l_q rfl rfl rfl rfl rfl dL_law_415 (Nat.le_of_ble_eq_true rfl) (by omega) (by omega) (Nat.le_of_ble_eq_true rfl) (fun _ _ hz => hz.elim) (fun r3 u3 hr => ?_)
    obtain ⟨hr, rfl⟩ := hr
    subst hr
    refine V.stt (g2 := (c2, o, dd, u3)) rfl ?_
    refine v_iload C dL_law_418 rfl ?_
    refine v_icmp_eq C 425 dL_law_420 (by decide) (fun _ => ?_) (fun z => absurd rfl z)
    refine v_iload C dL_law_425 rfl ?_
    refine v_if_ne C 442 dL_law_427 (by decide) (fun _ => ?_) (fun z => absurd z (nI_pos3 hi3))
    refine v_goto C 3915 dL_law_442 (by decide) ?_
    refine V.sub (lo2 := [some (.ref b), some (.ref (h 0)), some (.ref (sh 126 h 0)), some (.ref (h 124)), some (.ref (h 125)), some (.int (nI (6 * j))), none, none, none]) ⟨rfl, rfl, rfl, rfl, rfl, rfl, trivial⟩ ?_
    exact back _ _ _ _ hIV
set_option maxHeartbeats 1000000 in
theorem k_2 {X : Cx} {kc ks : Nat} (hl : (xl X).stackTraces = false) (C : Ok SS MM X RL cL_law 9 30 kc ks) {b L : Nat} {w : Nat → Int32} (Z : Lok X b L w) {h : Nat → Nat} {j : Nat} (hj : 6 * j + 6 ≤ L) (hL : L ≤ 3072) {c : Cg} {o : Nat → Int64} {dd : Nat → UInt64} {q : G} (I : INV (20 + j) c q) {k n : Nat} (hk : k + 6 ≤ kc) (hn : n + 36 ≤ ks) (back : ∀ c2 o2 d2 q2, INV (20 + j + 1) c2 q2 → V X (lS (xK X) h) 3915 [some (.ref b), some (.ref (h 0)), some (.ref (sh 126 h 0)), some (.ref (h 124)), some (.ref (h 125)), some (.int (nI (6 * j))), none, none, none] [] (c2, o2, d2, q2) (k + 6) (n + 36)) : V X (lS (xK X) h) 445 [some (.ref b), some (.ref (h 0)), some (.ref (sh 126 h 0)), some (.ref (h 124)), some (.ref (h 125)), some (.int (nI (6 * j))), none, none, none] [] (c, o, dd, q) k n := by
  refine v_aload_n C dL_law_445 rfl ?_
  obtain ⟨dM, dq, post, pq, ⟨a1, a4⟩, M, Mq, J⟩ := z_parseError hl (κ := xK X) (h := h) I
  refine v_callVi C M ym_X5_parseError ml_L_214 emb_l_c rfl rfl rfl rfl rfl dL_law_446 (by omega) (by omega) (by omega) (Nat.le_of_ble_eq_true rfl) (fun _ _ hz => hz.elim) (fun v c2 hp => ?_)
  refine v_aload_n C dL_law_449 rfl ?_
  refine v_callVi C Mq ym_X6_parseError ml_L_217 emb_l_q rfl rfl rfl rfl rfl dL_law_450 (by omega) (by omega) (by omega) (Nat.le_of_ble_eq_true rfl) (fun _ _ hz => hz.elim) (fun r2 u2 hq => ?_)
  obtain ⟨rfl, hIV⟩ := J _ _ _ _ hp hq
  refine V.stt (g2 := (c2, o, dd, u2)) rfl ?_
  refine v_icmp_eq C 3915 dL_law_453 (by decide) (fun _ => ?_) (fun z => absurd rfl z)
  refine V.sub (lo2 := [some (.ref b), some (.ref (h 0)), some (.ref (sh 126 h 0)), some (.ref (h 124)), some (.ref (h 125)), some (.int (nI (6 * j))), none, none, none]) ⟨rfl, rfl, rfl, rfl, rfl, rfl, trivial⟩ ?_
  exact V.widen (by omega) (by omega) (back _ _ _ _ hIV)
set_option maxHeartbeats 1000000 in
theorem k_3 {X : Cx} {kc ks : Nat} (hl : (xl X).stackTraces = false) (C : Ok SS MM X RL cL_law 9 30 kc ks) {b L : Nat} {w : Nat → Int32} (Z : Lok X b L w) {h : Nat → Nat} {j : Nat} (hj : 6 * j + 6 ≤ L) (hL : L ≤ 3072) {c : Cg} {o : Nat → Int64} {dd : Nat → UInt64} {q : G} (I : INV (20 + j) c q) {k n : Nat} (hk : k + 6 ≤ kc) (hn : n + 36 ≤ ks) (back : ∀ c2 o2 d2 q2, INV (20 + j + 1) c2 q2 → V X (lS (xK X) h) 3915 [some (.ref b), some (.ref (h 0)), some (.ref (sh 126 h 0)), some (.ref (h 124)), some (.ref (h 125)), some (.int (nI (6 * j))), none, none, none] [] (c2, o2, d2, q2) (k + 6) (n + 36)) : V X (lS (xK X) h) 458 [some (.ref b), some (.ref (h 0)), some (.ref (sh 126 h 0)), some (.ref (h 124)), some (.ref (h 125)), some (.int (nI (6 * j))), none, none, none] [] (c, o, dd, q) k n := by
  refine v_aload_n C dL_law_458 rfl ?_
  obtain ⟨dM, dq, post, pq, ⟨a1, a4⟩, M, Mq, J⟩ := z_errorPosition hl (κ := xK X) (h := h) I
  refine v_callVi C M ym_X5_errorPosition ml_L_218 emb_l_c rfl rfl rfl rfl rfl dL_law_459 (by omega) (by omega) (by omega) (Nat.le_of_ble_eq_true rfl) (fun _ _ hz => hz.elim) (fun v c2 hp => ?_)
  refine v_aload_n C dL_law_462 rfl ?_
  refine v_callVi C Mq ym_X6_errorPosition ml_L_221 emb_l_q rfl rfl rfl rfl rfl dL_law_463 (by omega) (by omega) (by omega) (Nat.le_of_ble_eq_true rfl) (fun _ _ hz => hz.elim) (fun r2 u2 hq => ?_)
  obtain ⟨rfl, hIV⟩ := J _ _ _ _ hp hq
  refine V.stt (g2 := (c2, o, dd, u2)) rfl ?_
  refine v_icmp_eq C 3915 dL_law_466 (by decide) (fun _ => ?_) (fun z => absurd rfl z)
  refine V.sub (lo2 := [some (.ref b), some (.ref (h 0)), some (.ref (sh 126 h 0)), some (.ref (h 124)), some (.ref (h 125)), some (.int (nI (6 * j))), none, none, none]) ⟨rfl, rfl, rfl, rfl, rfl, rfl, trivial⟩ ?_
  exact V.widen (by omega) (by omega) (back _ _ _ _ hIV)
set_option maxHeartbeats 1000000 in
theorem k_4 {X : Cx} {kc ks : Nat} (hl : (xl X).stackTraces = false) (C : Ok SS MM X RL cL_law 9 30 kc ks) {b L : Nat} {w : Nat → Int32} (Z : Lok X b L w) {h : Nat → Nat} {j : Nat} (hj : 6 * j + 6 ≤ L) (hL : L ≤ 3072) {c : Cg} {o : Nat → Int64} {dd : Nat → UInt64} {q : G} (I : INV (20 + j) c q) {k n : Nat} (hk : k + 6 ≤ kc) (hn : n + 36 ≤ ks) (back : ∀ c2 o2 d2 q2, INV (20 + j + 1) c2 q2 → V X (lS (xK X) h) 3915 [some (.ref b), some (.ref (h 0)), some (.ref (sh 126 h 0)), some (.ref (h 124)), some (.ref (h 125)), some (.int (nI (6 * j))), none, none, none] [] (c2, o2, d2, q2) (k + 6) (n + 36)) : V X (lS (xK X) h) 471 [some (.ref b), some (.ref (h 0)), some (.ref (sh 126 h 0)), some (.ref (h 124)), some (.ref (h 125)), some (.int (nI (6 * j))), none, none, none] [] (c, o, dd, q) k n := by
  refine v_aload_n C dL_law_471 rfl ?_
  obtain ⟨dM, dq, post, pq, ⟨a1, a4⟩, M, Mq, J⟩ := z_buffered hl (κ := xK X) (h := h) I
  refine v_callVi C M ym_X5_buffered ml_L_222 emb_l_c rfl rfl rfl rfl rfl dL_law_472 (by omega) (by omega) (by omega) (Nat.le_of_ble_eq_true rfl) (fun _ _ hz => hz.elim) (fun v c2 hp => ?_)
  refine v_aload_n C dL_law_475 rfl ?_
  refine v_callVi C Mq ym_X6_buffered ml_L_225 emb_l_q rfl rfl rfl rfl rfl dL_law_476 (by omega) (by omega) (by omega) (Nat.le_of_ble_eq_true rfl) (fun _ _ hz => hz.elim) (fun r2 u2 hq => ?_)
  obtain ⟨rfl, hIV⟩ := J _ _ _ _ hp hq
  refine V.stt (g2 := (c2, o, dd, u2)) rfl ?_
  refine v_icmp_eq C 3915 dL_law_479 (by decide) (fun _ => ?_) (fun z => absurd rfl z)
  refine V.sub (lo2 := [some (.ref b), some (.ref (h 0)), some (.ref (sh 126 h 0)), some (.ref (h 124)), some (.ref (h 125)), some (.int (nI (6 * j))), none, none, none]) ⟨rfl, rfl, rfl, rfl, rfl, rfl, trivial⟩ ?_
  exact V.widen (by omega) (by omega) (back _ _ _ _ hIV)
set_option maxHeartbeats 1000000 in
theorem k_5 {X : Cx} {kc ks : Nat} (hl : (xl X).stackTraces = false) (C : Ok SS MM X RL cL_law 9 30 kc ks) {b L : Nat} {w : Nat → Int32} (Z : Lok X b L w) {h : Nat → Nat} {j : Nat} (hj : 6 * j + 6 ≤ L) (hL : L ≤ 3072) {c : Cg} {o : Nat → Int64} {dd : Nat → UInt64} {q : G} (I : INV (20 + j) c q) {k n : Nat} (hk : k + 6 ≤ kc) (hn : n + 36 ≤ ks) (back : ∀ c2 o2 d2 q2, INV (20 + j + 1) c2 q2 → V X (lS (xK X) h) 3915 [some (.ref b), some (.ref (h 0)), some (.ref (sh 126 h 0)), some (.ref (h 124)), some (.ref (h 125)), some (.int (nI (6 * j))), none, none, none] [] (c2, o2, d2, q2) (k + 6) (n + 36)) : V X (lS (xK X) h) 484 [some (.ref b), some (.ref (h 0)), some (.ref (sh 126 h 0)), some (.ref (h 124)), some (.ref (h 125)), some (.int (nI (6 * j))), none, none, none] [] (c, o, dd, q) k n := by
  refine v_aload_n C dL_law_484 rfl ?_
  obtain ⟨dM, dq, post, pq, ⟨a1, a4⟩, M, Mq, J⟩ := z_size hl (κ := xK X) (h := h) I
  refine v_callVi C M ym_X5_size ml_L_226 emb_l_c rfl rfl rfl rfl rfl dL_law_485 (by omega) (by omega) (by omega) (Nat.le_of_ble_eq_true rfl) (fun _ _ hz => hz.elim) (fun v c2 hp => ?_)
  refine v_aload_n C dL_law_488 rfl ?_
  refine v_callVi C Mq ym_X6_size ml_L_229 emb_l_q rfl rfl rfl rfl rfl dL_law_489 (by omega) (by omega) (by omega) (Nat.le_of_ble_eq_true rfl) (fun _ _ hz => hz.elim) (fun r2 u2 hq => ?_)
  obtain ⟨rfl, hIV⟩ := J _ _ _ _ hp hq
  refine V.stt (g2 := (c2, o, dd, u2)) rfl ?_
  refine v_icmp_eq C 3915 dL_law_492 (by decide) (fun _ => ?_) (fun z => absurd rfl z)
  refine V.sub (lo2 := [some (.ref b), some (.ref (h 0)), some (.ref (sh 126 h 0)), some (.ref (h 124)), some (.ref (h 125)), some (.int (nI (6 * j))), none, none, none]) ⟨rfl, rfl, rfl, rfl, rfl, rfl, trivial⟩ ?_
  exact V.widen (by omega) (by omega) (back _ _ _ _ hIV)
set_option maxHeartbeats 1000000 in
theorem k_6 {X : Cx} {kc ks : Nat} (hl : (xl X).stackTraces = false) (C : Ok SS MM X RL cL_law 9 30 kc ks) {b L : Nat} {w : Nat → Int32} (Z : Lok X b L w) {h : Nat → Nat} {j : Nat} (hj : 6 * j + 6 ≤ L) (hL : L ≤ 3072) {c : Cg} {o : Nat → Int64} {dd : Nat → UInt64} {q : G} (I : INV (20 + j) c q) {k n : Nat} (hk : k + 6 ≤ kc) (hn : n + 36 ≤ ks) (back : ∀ c2 o2 d2 q2, INV (20 + j + 1) c2 q2 → V X (lS (xK X) h) 3915 [some (.ref b), some (.ref (h 0)), some (.ref (sh 126 h 0)), some (.ref (h 124)), some (.ref (h 125)), some (.int (nI (6 * j))), none, none, none] [] (c2, o2, d2, q2) (k + 6) (n + 36)) : V X (lS (xK X) h) 497 [some (.ref b), some (.ref (h 0)), some (.ref (sh 126 h 0)), some (.ref (h 124)), some (.ref (h 125)), some (.int (nI (6 * j))), none, none, none] [] (c, o, dd, q) k n := by
  refine v_aload_n C dL_law_497 rfl ?_
  refine v_aload_n C dL_law_498 rfl ?_
  refine v_iload C dL_law_499 rfl ?_
  refine v_iconst C dL_law_501 (v := nI 1) (by decide) ?_
  refine v_iaddN C dL_law_502 ?_
  refine v_sld C Z (6 * j + 1) rfl (by omega) hL dL_law_503 ?_
  refine v_aload_n C dL_law_504 rfl ?_
  obtain ⟨dM, mc, ms, dq, post, px, pq, ⟨a1, a2, a3, a4⟩, M, Mq, hE, ⟨J1, J2⟩, hP⟩ := s_setting hl (κ := xK X) (h := h) (by omega) I (w (6 * j + 1))
  refine v_callSH C (hc_setting hl (κ := xK X) (h := h) (c := c) (o := o) (dd := dd) (q := q) a1 a2 a3 M hE) ysh_L_setting rfl ml_L_230 emb_id_lS rfl rfl rfl dL_law_505 (Nat.le_of_ble_eq_true rfl) hk hn (Nat.le_of_ble_eq_true rfl) (fun _ _ hz => hz.elim) (fun r u hu => ?_)
  rcases hu with ⟨v, c2, hp, rfl, rfl⟩ | ⟨e, c2, i, hp, hi, rfl, rfl⟩
  · skip
    refine v_istore C dL_law_508 rfl (Nat.le_of_ble_eq_true rfl) rfl ?_
    refine v_aload_n C dL_law_510 rfl ?_
    refine v_aload_n C dL_law_511 rfl ?_
    refine v_iload C dL_law_512 rfl ?_
    refine v_iconst C dL_law_514 (v := nI 1) (by decide) ?_
    refine v_iaddN C dL_law_515 ?_
    refine v_sld C Z (6 * j + 1) rfl (by omega) hL dL_law_516 ?_
    refine v_callVi C Mq ym_X6_setting ml_L_232 emb_l_q rfl rfl rfl rfl rfl dL_law_517 (by omega) (by omega) (by omega) (Nat.le_of_ble_eq_true rfl) (fun _ _ hz => hz.elim) (fun r2 u2 hq => ?_)
    obtain ⟨t0, rfl, hIV⟩ := J1 _ _ _ _ hp hq
    refine V.stt (g2 := (c2, vp_updL o 0 (cvI v), dd, u2)) rfl ?_
    refine v_istore C dL_law_520 rfl (Nat.le_of_ble_eq_true rfl) rfl ?_
    refine v_aload_n C dL_law_522 rfl ?_
    refine v_callVi C (c_X6_thrown hl t0) ym_X6_thrown ml_L_211 emb_l_q rfl rfl rfl rfl rfl dL_law_523 (Nat.le_of_ble_eq_true rfl) (by omega) (by omega) (Nat.le_of_ble_eq_true rfl) (fun _ _ hz => hz.elim) (fun r3 u3 hr => ?_)
    obtain ⟨hr, rfl⟩ := hr
    subst hr
    refine V.stt (g2 := (c2, vp_updL o 0 (cvI v), dd, u3)) rfl ?_
    refine v_iload C dL_law_526 rfl ?_
    refine v_icmp_eq C 533 dL_law_528 (by decide) (fun _ => ?_) (fun z => absurd rfl z)
    refine v_iload C dL_law_533 rfl ?_
    refine v_if_ne C 550 dL_law_535 (by decide) (fun z => absurd (by decide) z) (fun _ => ?_)
    refine v_aload_n C dL_law_538 rfl ?_
    refine v_iconst C dL_law_539 (v := nI 0) (by decide) ?_
    refine v_lald C aj_l (by decide) 0 (by decide) rfl dL_law_540 ?_
    refine v_iload C dL_law_541 rfl ?_
    refine v_i2l C dL_law_543 rfl ?_
    refine v_lcmp C dL_law_544 ?_
    refine v_if_eq C 550 dL_law_545 (by decide) (fun _ => ?_) (fun z => absurd (lg_out (o := o) (x := cvI v) (y := v.toInt64) rfl) z)
    refine v_goto C 3915 dL_law_550 (by decide) ?_
    refine V.sub (lo2 := [some (.ref b), some (.ref (h 0)), some (.ref (sh 126 h 0)), some (.ref (h 124)), some (.ref (h 125)), some (.int (nI (6 * j))), none, none, none]) ⟨rfl, rfl, rfl, rfl, rfl, rfl, trivial⟩ ?_
    exact back _ _ _ _ hIV
  · skip
    refine v_istore C dL_law_508 rfl (Nat.le_of_ble_eq_true rfl) rfl ?_
    refine v_aload_n C dL_law_510 rfl ?_
    refine v_aload_n C dL_law_511 rfl ?_
    refine v_iload C dL_law_512 rfl ?_
    refine v_iconst C dL_law_514 (v := nI 1) (by decide) ?_
    refine v_iaddN C dL_law_515 ?_
    refine v_sld C Z (6 * j + 1) rfl (by omega) hL dL_law_516 ?_
    refine v_callVi C Mq ym_X6_setting ml_L_232 emb_l_q rfl rfl rfl rfl rfl dL_law_517 (by omega) (by omega) (by omega) (Nat.le_of_ble_eq_true rfl) (fun _ _ hz => hz.elim) (fun r2 u2 hq => ?_)
    obtain ⟨i2, h2, hi3, t0, hIV⟩ := J2 _ _ _ _ hp hq
    obtain rfl := EL_inj nd_SA hi h2
    refine V.stt (g2 := (c2, o, dd, u2)) rfl ?_
    refine v_istore C dL_law_520 rfl (Nat.le_of_ble_eq_true rfl) rfl ?_
    refine v_aload_n C dL_law_522 rfl ?_
    refine v_callVi C (c_X6_thrown hl t0) ym_X6_thrown ml_L_211 emb_l_q rfl rfl rfl rfl rfl dL_law_523 (Nat.le_of_ble_eq_true rfl) (by omega) (by omega) (Nat.le_of_ble_eq_true rfl) (fun _ _ hz => hz.elim) (fun r3 u3 hr => ?_)
    obtain ⟨hr, rfl⟩ := hr
    subst hr
    refine V.stt (g2 := (c2, o, dd, u3)) rfl ?_
    refine v_iload C dL_law_526 rfl ?_
    refine v_icmp_eq C 533 dL_law_528 (by decide) (fun _ => ?_) (fun z => absurd rfl z)
    refine v_iload C dL_law_533 rfl ?_
    refine v_if_ne C 550 dL_law_535 (by decide) (fun _ => ?_) (fun z => absurd z (nI_pos3 hi3))
    refine v_goto C 3915 dL_law_550 (by decide) ?_
    refine V.sub (lo2 := [some (.ref b), some (.ref (h 0)), some (.ref (sh 126 h 0)), some (.ref (h 124)), some (.ref (h 125)), some (.int (nI (6 * j))), none, none, none]) ⟨rfl, rfl, rfl, rfl, rfl, rfl, trivial⟩ ?_
    exact back _ _ _ _ hIV
set_option maxHeartbeats 1000000 in
theorem k_7 {X : Cx} {kc ks : Nat} (hl : (xl X).stackTraces = false) (C : Ok SS MM X RL cL_law 9 30 kc ks) {b L : Nat} {w : Nat → Int32} (Z : Lok X b L w) {h : Nat → Nat} {j : Nat} (hj : 6 * j + 6 ≤ L) (hL : L ≤ 3072) {c : Cg} {o : Nat → Int64} {dd : Nat → UInt64} {q : G} (I : INV (20 + j) c q) {k n : Nat} (hk : k + 6 ≤ kc) (hn : n + 36 ≤ ks) (back : ∀ c2 o2 d2 q2, INV (20 + j + 1) c2 q2 → V X (lS (xK X) h) 3915 [some (.ref b), some (.ref (h 0)), some (.ref (sh 126 h 0)), some (.ref (h 124)), some (.ref (h 125)), some (.int (nI (6 * j))), none, none, none] [] (c2, o2, d2, q2) (k + 6) (n + 36)) : V X (lS (xK X) h) 553 [some (.ref b), some (.ref (h 0)), some (.ref (sh 126 h 0)), some (.ref (h 124)), some (.ref (h 125)), some (.int (nI (6 * j))), none, none, none] [] (c, o, dd, q) k n := by
  refine v_aload_n C dL_law_553 rfl ?_
  refine v_aload_n C dL_law_554 rfl ?_
  refine v_iload C dL_law_555 rfl ?_
  refine v_iconst C dL_law_557 (v := nI 1) (by decide) ?_
  refine v_iaddN C dL_law_558 ?_
  refine v_sld C Z (6 * j + 1) rfl (by omega) hL dL_law_559 ?_
  refine v_aload_n C dL_law_560 rfl ?_
  obtain ⟨dM, mc, ms, dq, post, px, pq, ⟨a1, a2, a3, a4⟩, M, Mq, hE, ⟨J1, J2⟩, hP⟩ := s_stored hl (κ := xK X) (h := h) (by omega) I (w (6 * j + 1))
  refine v_callSH C (hc_stored hl (κ := xK X) (h := h) (c := c) (o := o) (dd := dd) (q := q) a1 a2 a3 M hE) ysh_L_stored rfl ml_L_233 emb_id_lS rfl rfl rfl dL_law_561 (Nat.le_of_ble_eq_true rfl) hk hn (Nat.le_of_ble_eq_true rfl) (fun _ _ hz => hz.elim) (fun r u hu => ?_)
  rcases hu with ⟨v, c2, hp, rfl, rfl⟩ | ⟨e, c2, i, hp, hi, rfl, rfl⟩
  · skip
    refine v_istore C dL_law_564 rfl (Nat.le_of_ble_eq_true rfl) rfl ?_
    refine v_aload_n C dL_law_566 rfl ?_
    refine v_aload_n C dL_law_567 rfl ?_
    refine v_iload C dL_law_568 rfl ?_
    refine v_iconst C dL_law_570 (v := nI 1) (by decide) ?_
    refine v_iaddN C dL_law_571 ?_
    refine v_sld C Z (6 * j + 1) rfl (by omega) hL dL_law_572 ?_
    refine v_callVi C Mq ym_X6_stored ml_L_235 emb_l_q rfl rfl rfl rfl rfl dL_law_573 (by omega) (by omega) (by omega) (Nat.le_of_ble_eq_true rfl) (fun _ _ hz => hz.elim) (fun r2 u2 hq => ?_)
    obtain ⟨t0, rfl, hIV⟩ := J1 _ _ _ _ hp hq
    refine V.stt (g2 := (c2, vp_updL o 0 (cvI v), dd, u2)) rfl ?_
    refine v_istore C dL_law_576 rfl (Nat.le_of_ble_eq_true rfl) rfl ?_
    refine v_aload_n C dL_law_578 rfl ?_
    refine v_callVi C (c_X6_thrown hl t0) ym_X6_thrown ml_L_211 emb_l_q rfl rfl rfl rfl rfl dL_law_579 (Nat.le_of_ble_eq_true rfl) (by omega) (by omega) (Nat.le_of_ble_eq_true rfl) (fun _ _ hz => hz.elim) (fun r3 u3 hr => ?_)
    obtain ⟨hr, rfl⟩ := hr
    subst hr
    refine V.stt (g2 := (c2, vp_updL o 0 (cvI v), dd, u3)) rfl ?_
    refine v_iload C dL_law_582 rfl ?_
    refine v_icmp_eq C 589 dL_law_584 (by decide) (fun _ => ?_) (fun z => absurd rfl z)
    refine v_iload C dL_law_589 rfl ?_
    refine v_if_ne C 606 dL_law_591 (by decide) (fun z => absurd (by decide) z) (fun _ => ?_)
    refine v_aload_n C dL_law_594 rfl ?_
    refine v_iconst C dL_law_595 (v := nI 0) (by decide) ?_
    refine v_lald C aj_l (by decide) 0 (by decide) rfl dL_law_596 ?_
    refine v_iload C dL_law_597 rfl ?_
    refine v_i2l C dL_law_599 rfl ?_
    refine v_lcmp C dL_law_600 ?_
    refine v_if_eq C 606 dL_law_601 (by decide) (fun _ => ?_) (fun z => absurd (lg_out (o := o) (x := cvI v) (y := v.toInt64) rfl) z)
    refine v_goto C 3915 dL_law_606 (by decide) ?_
    refine V.sub (lo2 := [some (.ref b), some (.ref (h 0)), some (.ref (sh 126 h 0)), some (.ref (h 124)), some (.ref (h 125)), some (.int (nI (6 * j))), none, none, none]) ⟨rfl, rfl, rfl, rfl, rfl, rfl, trivial⟩ ?_
    exact back _ _ _ _ hIV
  · skip
    refine v_istore C dL_law_564 rfl (Nat.le_of_ble_eq_true rfl) rfl ?_
    refine v_aload_n C dL_law_566 rfl ?_
    refine v_aload_n C dL_law_567 rfl ?_
    refine v_iload C dL_law_568 rfl ?_
    refine v_iconst C dL_law_570 (v := nI 1) (by decide) ?_
    refine v_iaddN C dL_law_571 ?_
    refine v_sld C Z (6 * j + 1) rfl (by omega) hL dL_law_572 ?_
    refine v_callVi C Mq ym_X6_stored ml_L_235 emb_l_q rfl rfl rfl rfl rfl dL_law_573 (by omega) (by omega) (by omega) (Nat.le_of_ble_eq_true rfl) (fun _ _ hz => hz.elim) (fun r2 u2 hq => ?_)
    obtain ⟨i2, h2, hi3, t0, hIV⟩ := J2 _ _ _ _ hp hq
    obtain rfl := EL_inj nd_SO hi h2
    refine V.stt (g2 := (c2, o, dd, u2)) rfl ?_
    refine v_istore C dL_law_576 rfl (Nat.le_of_ble_eq_true rfl) rfl ?_
    refine v_aload_n C dL_law_578 rfl ?_
    refine v_callVi C (c_X6_thrown hl t0) ym_X6_thrown ml_L_211 emb_l_q rfl rfl rfl rfl rfl dL_law_579 (Nat.le_of_ble_eq_true rfl) (by omega) (by omega) (Nat.le_of_ble_eq_true rfl) (fun _ _ hz => hz.elim) (fun r3 u3 hr => ?_)
    obtain ⟨hr, rfl⟩ := hr
    subst hr
    refine V.stt (g2 := (c2, o, dd, u3)) rfl ?_
    refine v_iload C dL_law_582 rfl ?_
    refine v_icmp_eq C 589 dL_law_584 (by decide) (fun _ => ?_) (fun z => absurd rfl z)
    refine v_iload C dL_law_589 rfl ?_
    refine v_if_ne C 606 dL_law_591 (by decide) (fun _ => ?_) (fun z => absurd z (nI_pos3 hi3))
    refine v_goto C 3915 dL_law_606 (by decide) ?_
    refine V.sub (lo2 := [some (.ref b), some (.ref (h 0)), some (.ref (sh 126 h 0)), some (.ref (h 124)), some (.ref (h 125)), some (.int (nI (6 * j))), none, none, none]) ⟨rfl, rfl, rfl, rfl, rfl, rfl, trivial⟩ ?_
    exact back _ _ _ _ hIV
set_option maxHeartbeats 1000000 in
theorem k_8 {X : Cx} {kc ks : Nat} (hl : (xl X).stackTraces = false) (C : Ok SS MM X RL cL_law 9 30 kc ks) {b L : Nat} {w : Nat → Int32} (Z : Lok X b L w) {h : Nat → Nat} {j : Nat} (hj : 6 * j + 6 ≤ L) (hL : L ≤ 3072) {c : Cg} {o : Nat → Int64} {dd : Nat → UInt64} {q : G} (I : INV (20 + j) c q) {k n : Nat} (hk : k + 6 ≤ kc) (hn : n + 36 ≤ ks) (back : ∀ c2 o2 d2 q2, INV (20 + j + 1) c2 q2 → V X (lS (xK X) h) 3915 [some (.ref b), some (.ref (h 0)), some (.ref (sh 126 h 0)), some (.ref (h 124)), some (.ref (h 125)), some (.int (nI (6 * j))), none, none, none] [] (c2, o2, d2, q2) (k + 6) (n + 36)) : V X (lS (xK X) h) 609 [some (.ref b), some (.ref (h 0)), some (.ref (sh 126 h 0)), some (.ref (h 124)), some (.ref (h 125)), some (.int (nI (6 * j))), none, none, none] [] (c, o, dd, q) k n := by
  refine v_aload_n C dL_law_609 rfl ?_
  refine v_aload_n C dL_law_610 rfl ?_
  refine v_iload C dL_law_611 rfl ?_
  refine v_iconst C dL_law_613 (v := nI 1) (by decide) ?_
  refine v_iaddN C dL_law_614 ?_
  refine v_sld C Z (6 * j + 1) rfl (by omega) hL dL_law_615 ?_
  refine v_aload_n C dL_law_616 rfl ?_
  obtain ⟨dM, mc, ms, dq, post, px, pq, ⟨a1, a2, a3, a4⟩, M, Mq, hE, ⟨J1, J2⟩, hP⟩ := s_value hl (κ := xK X) (h := h) (by omega) I (w (6 * j + 1))
  refine v_callSH C (hc_value hl (κ := xK X) (h := h) (c := c) (o := o) (dd := dd) (q := q) a1 a2 a3 M hE) ysh_L_value rfl ml_L_236 emb_id_lS rfl rfl rfl dL_law_617 (Nat.le_of_ble_eq_true rfl) hk hn (Nat.le_of_ble_eq_true rfl) (fun _ _ hz => hz.elim) (fun r u hu => ?_)
  rcases hu with ⟨v, c2, hp, rfl, rfl⟩ | ⟨e, c2, i, hp, hi, rfl, rfl⟩
  · skip
    refine v_istore C dL_law_620 rfl (Nat.le_of_ble_eq_true rfl) rfl ?_
    refine v_aload_n C dL_law_622 rfl ?_
    refine v_aload_n C dL_law_623 rfl ?_
    refine v_iload C dL_law_624 rfl ?_
    refine v_iconst C dL_law_626 (v := nI 1) (by decide) ?_
    refine v_iaddN C dL_law_627 ?_
    refine v_sld C Z (6 * j + 1) rfl (by omega) hL dL_law_628 ?_
    refine v_callVi C Mq ym_X6_value ml_L_238 emb_l_q rfl rfl rfl rfl rfl dL_law_629 (by omega) (by omega) (by omega) (Nat.le_of_ble_eq_true rfl) (fun _ _ hz => hz.elim) (fun r2 u2 hq => ?_)
    obtain ⟨t0, rfl, hIV⟩ := J1 _ _ _ _ hp hq
    refine V.stt (g2 := (c2, vp_updL o 0 (cvI v), dd, u2)) rfl ?_
    refine v_istore C dL_law_632 rfl (Nat.le_of_ble_eq_true rfl) rfl ?_
    refine v_aload_n C dL_law_634 rfl ?_
    refine v_callVi C (c_X6_thrown hl t0) ym_X6_thrown ml_L_211 emb_l_q rfl rfl rfl rfl rfl dL_law_635 (Nat.le_of_ble_eq_true rfl) (by omega) (by omega) (Nat.le_of_ble_eq_true rfl) (fun _ _ hz => hz.elim) (fun r3 u3 hr => ?_)
    obtain ⟨hr, rfl⟩ := hr
    subst hr
    refine V.stt (g2 := (c2, vp_updL o 0 (cvI v), dd, u3)) rfl ?_
    refine v_iload C dL_law_638 rfl ?_
    refine v_icmp_eq C 645 dL_law_640 (by decide) (fun _ => ?_) (fun z => absurd rfl z)
    refine v_iload C dL_law_645 rfl ?_
    refine v_if_ne C 662 dL_law_647 (by decide) (fun z => absurd (by decide) z) (fun _ => ?_)
    refine v_aload_n C dL_law_650 rfl ?_
    refine v_iconst C dL_law_651 (v := nI 0) (by decide) ?_
    refine v_lald C aj_l (by decide) 0 (by decide) rfl dL_law_652 ?_
    refine v_iload C dL_law_653 rfl ?_
    refine v_i2l C dL_law_655 rfl ?_
    refine v_lcmp C dL_law_656 ?_
    refine v_if_eq C 662 dL_law_657 (by decide) (fun _ => ?_) (fun z => absurd (lg_out (o := o) (x := cvI v) (y := v.toInt64) rfl) z)
    refine v_goto C 3915 dL_law_662 (by decide) ?_
    refine V.sub (lo2 := [some (.ref b), some (.ref (h 0)), some (.ref (sh 126 h 0)), some (.ref (h 124)), some (.ref (h 125)), some (.int (nI (6 * j))), none, none, none]) ⟨rfl, rfl, rfl, rfl, rfl, rfl, trivial⟩ ?_
    exact back _ _ _ _ hIV
  · skip
    refine v_istore C dL_law_620 rfl (Nat.le_of_ble_eq_true rfl) rfl ?_
    refine v_aload_n C dL_law_622 rfl ?_
    refine v_aload_n C dL_law_623 rfl ?_
    refine v_iload C dL_law_624 rfl ?_
    refine v_iconst C dL_law_626 (v := nI 1) (by decide) ?_
    refine v_iaddN C dL_law_627 ?_
    refine v_sld C Z (6 * j + 1) rfl (by omega) hL dL_law_628 ?_
    refine v_callVi C Mq ym_X6_value ml_L_238 emb_l_q rfl rfl rfl rfl rfl dL_law_629 (by omega) (by omega) (by omega) (Nat.le_of_ble_eq_true rfl) (fun _ _ hz => hz.elim) (fun r2 u2 hq => ?_)
    obtain ⟨i2, h2, hi3, t0, hIV⟩ := J2 _ _ _ _ hp hq
    obtain rfl := EL_inj nd_SO hi h2
    refine V.stt (g2 := (c2, o, dd, u2)) rfl ?_
    refine v_istore C dL_law_632 rfl (Nat.le_of_ble_eq_true rfl) rfl ?_
    refine v_aload_n C dL_law_634 rfl ?_
    refine v_callVi C (c_X6_thrown hl t0) ym_X6_thrown ml_L_211 emb_l_q rfl rfl rfl rfl rfl dL_law_635 (Nat.le_of_ble_eq_true rfl) (by omega) (by omega) (Nat.le_of_ble_eq_true rfl) (fun _ _ hz => hz.elim) (fun r3 u3 hr => ?_)
    obtain ⟨hr, rfl⟩ := hr
    subst hr
    refine V.stt (g2 := (c2, o, dd, u3)) rfl ?_
    refine v_iload C dL_law_638 rfl ?_
    refine v_icmp_eq C 645 dL_law_640 (by decide) (fun _ => ?_) (fun z => absurd rfl z)
    refine v_iload C dL_law_645 rfl ?_
    refine v_if_ne C 662 dL_law_647 (by decide) (fun _ => ?_) (fun z => absurd z (nI_pos3 hi3))
    refine v_goto C 3915 dL_law_662 (by decide) ?_
    refine V.sub (lo2 := [some (.ref b), some (.ref (h 0)), some (.ref (sh 126 h 0)), some (.ref (h 124)), some (.ref (h 125)), some (.int (nI (6 * j))), none, none, none]) ⟨rfl, rfl, rfl, rfl, rfl, rfl, trivial⟩ ?_
    exact back _ _ _ _ hIV
set_option maxHeartbeats 1000000 in
theorem k_9 {X : Cx} {kc ks : Nat} (hl : (xl X).stackTraces = false) (C : Ok SS MM X RL cL_law 9 30 kc ks) {b L : Nat} {w : Nat → Int32} (Z : Lok X b L w) {h : Nat → Nat} {j : Nat} (hj : 6 * j + 6 ≤ L) (hL : L ≤ 3072) {c : Cg} {o : Nat → Int64} {dd : Nat → UInt64} {q : G} (I : INV (20 + j) c q) {k n : Nat} (hk : k + 6 ≤ kc) (hn : n + 36 ≤ ks) (back : ∀ c2 o2 d2 q2, INV (20 + j + 1) c2 q2 → V X (lS (xK X) h) 3915 [some (.ref b), some (.ref (h 0)), some (.ref (sh 126 h 0)), some (.ref (h 124)), some (.ref (h 125)), some (.int (nI (6 * j))), none, none, none] [] (c2, o2, d2, q2) (k + 6) (n + 36)) : V X (lS (xK X) h) 665 [some (.ref b), some (.ref (h 0)), some (.ref (sh 126 h 0)), some (.ref (h 124)), some (.ref (h 125)), some (.int (nI (6 * j))), none, none, none] [] (c, o, dd, q) k n := by
  refine v_aload_n C dL_law_665 rfl ?_
  refine v_aload_n C dL_law_666 rfl ?_
  refine v_iload C dL_law_667 rfl ?_
  refine v_iconst C dL_law_669 (v := nI 1) (by decide) ?_
  refine v_iaddN C dL_law_670 ?_
  refine v_sld C Z (6 * j + 1) rfl (by omega) hL dL_law_671 ?_
  refine v_aload_n C dL_law_672 rfl ?_
  obtain ⟨dM, mc, ms, dq, post, px, pq, ⟨a1, a2, a3, a4⟩, M, Mq, hE, ⟨J1, J2⟩, hP⟩ := s_source hl (κ := xK X) (h := h) (by omega) I (w (6 * j + 1))
  refine v_callSH C (hc_source hl (κ := xK X) (h := h) (c := c) (o := o) (dd := dd) (q := q) a1 a2 a3 M hE) ysh_L_source rfl ml_L_239 emb_id_lS rfl rfl rfl dL_law_673 (Nat.le_of_ble_eq_true rfl) hk hn (Nat.le_of_ble_eq_true rfl) (fun _ _ hz => hz.elim) (fun r u hu => ?_)
  rcases hu with ⟨v, c2, hp, rfl, rfl⟩ | ⟨e, c2, i, hp, hi, rfl, rfl⟩
  · skip
    refine v_istore C dL_law_676 rfl (Nat.le_of_ble_eq_true rfl) rfl ?_
    refine v_aload_n C dL_law_678 rfl ?_
    refine v_aload_n C dL_law_679 rfl ?_
    refine v_iload C dL_law_680 rfl ?_
    refine v_iconst C dL_law_682 (v := nI 1) (by decide) ?_
    refine v_iaddN C dL_law_683 ?_
    refine v_sld C Z (6 * j + 1) rfl (by omega) hL dL_law_684 ?_
    refine v_callVi C Mq ym_X6_source ml_L_241 emb_l_q rfl rfl rfl rfl rfl dL_law_685 (by omega) (by omega) (by omega) (Nat.le_of_ble_eq_true rfl) (fun _ _ hz => hz.elim) (fun r2 u2 hq => ?_)
    obtain ⟨t0, rfl, hIV⟩ := J1 _ _ _ _ hp hq
    refine V.stt (g2 := (c2, vp_updL o 0 (cvI v), dd, u2)) rfl ?_
    refine v_istore C dL_law_688 rfl (Nat.le_of_ble_eq_true rfl) rfl ?_
    refine v_aload_n C dL_law_690 rfl ?_
    refine v_callVi C (c_X6_thrown hl t0) ym_X6_thrown ml_L_211 emb_l_q rfl rfl rfl rfl rfl dL_law_691 (Nat.le_of_ble_eq_true rfl) (by omega) (by omega) (Nat.le_of_ble_eq_true rfl) (fun _ _ hz => hz.elim) (fun r3 u3 hr => ?_)
    obtain ⟨hr, rfl⟩ := hr
    subst hr
    refine V.stt (g2 := (c2, vp_updL o 0 (cvI v), dd, u3)) rfl ?_
    refine v_iload C dL_law_694 rfl ?_
    refine v_icmp_eq C 701 dL_law_696 (by decide) (fun _ => ?_) (fun z => absurd rfl z)
    refine v_iload C dL_law_701 rfl ?_
    refine v_if_ne C 718 dL_law_703 (by decide) (fun z => absurd (by decide) z) (fun _ => ?_)
    refine v_aload_n C dL_law_706 rfl ?_
    refine v_iconst C dL_law_707 (v := nI 0) (by decide) ?_
    refine v_lald C aj_l (by decide) 0 (by decide) rfl dL_law_708 ?_
    refine v_iload C dL_law_709 rfl ?_
    refine v_i2l C dL_law_711 rfl ?_
    refine v_lcmp C dL_law_712 ?_
    refine v_if_eq C 718 dL_law_713 (by decide) (fun _ => ?_) (fun z => absurd (lg_out (o := o) (x := cvI v) (y := v.toInt64) rfl) z)
    refine v_goto C 3915 dL_law_718 (by decide) ?_
    refine V.sub (lo2 := [some (.ref b), some (.ref (h 0)), some (.ref (sh 126 h 0)), some (.ref (h 124)), some (.ref (h 125)), some (.int (nI (6 * j))), none, none, none]) ⟨rfl, rfl, rfl, rfl, rfl, rfl, trivial⟩ ?_
    exact back _ _ _ _ hIV
  · skip
    refine v_istore C dL_law_676 rfl (Nat.le_of_ble_eq_true rfl) rfl ?_
    refine v_aload_n C dL_law_678 rfl ?_
    refine v_aload_n C dL_law_679 rfl ?_
    refine v_iload C dL_law_680 rfl ?_
    refine v_iconst C dL_law_682 (v := nI 1) (by decide) ?_
    refine v_iaddN C dL_law_683 ?_
    refine v_sld C Z (6 * j + 1) rfl (by omega) hL dL_law_684 ?_
    refine v_callVi C Mq ym_X6_source ml_L_241 emb_l_q rfl rfl rfl rfl rfl dL_law_685 (by omega) (by omega) (by omega) (Nat.le_of_ble_eq_true rfl) (fun _ _ hz => hz.elim) (fun r2 u2 hq => ?_)
    obtain ⟨i2, h2, hi3, t0, hIV⟩ := J2 _ _ _ _ hp hq
    obtain rfl := EL_inj nd_SO hi h2
    refine V.stt (g2 := (c2, o, dd, u2)) rfl ?_
    refine v_istore C dL_law_688 rfl (Nat.le_of_ble_eq_true rfl) rfl ?_
    refine v_aload_n C dL_law_690 rfl ?_
    refine v_callVi C (c_X6_thrown hl t0) ym_X6_thrown ml_L_211 emb_l_q rfl rfl rfl rfl rfl dL_law_691 (Nat.le_of_ble_eq_true rfl) (by omega) (by omega) (Nat.le_of_ble_eq_true rfl) (fun _ _ hz => hz.elim) (fun r3 u3 hr => ?_)
    obtain ⟨hr, rfl⟩ := hr
    subst hr
    refine V.stt (g2 := (c2, o, dd, u3)) rfl ?_
    refine v_iload C dL_law_694 rfl ?_
    refine v_icmp_eq C 701 dL_law_696 (by decide) (fun _ => ?_) (fun z => absurd rfl z)
    refine v_iload C dL_law_701 rfl ?_
    refine v_if_ne C 718 dL_law_703 (by decide) (fun _ => ?_) (fun z => absurd z (nI_pos3 hi3))
    refine v_goto C 3915 dL_law_718 (by decide) ?_
    refine V.sub (lo2 := [some (.ref b), some (.ref (h 0)), some (.ref (sh 126 h 0)), some (.ref (h 124)), some (.ref (h 125)), some (.int (nI (6 * j))), none, none, none]) ⟨rfl, rfl, rfl, rfl, rfl, rfl, trivial⟩ ?_
    exact back _ _ _ _ hIV
set_option maxHeartbeats 1000000 in
theorem k_10 {X : Cx} {kc ks : Nat} (hl : (xl X).stackTraces = false) (C : Ok SS MM X RL cL_law 9 30 kc ks) {b L : Nat} {w : Nat → Int32} (Z : Lok X b L w) {h : Nat → Nat} {j : Nat} (hj : 6 * j + 6 ≤ L) (hL : L ≤ 3072) {c : Cg} {o : Nat → Int64} {dd : Nat → UInt64} {q : G} (I : INV (20 + j) c q) {k n : Nat} (hk : k + 6 ≤ kc) (hn : n + 36 ≤ ks) (back : ∀ c2 o2 d2 q2, INV (20 + j + 1) c2 q2 → V X (lS (xK X) h) 3915 [some (.ref b), some (.ref (h 0)), some (.ref (sh 126 h 0)), some (.ref (h 124)), some (.ref (h 125)), some (.int (nI (6 * j))), none, none, none] [] (c2, o2, d2, q2) (k + 6) (n + 36)) : V X (lS (xK X) h) 721 [some (.ref b), some (.ref (h 0)), some (.ref (sh 126 h 0)), some (.ref (h 124)), some (.ref (h 125)), some (.int (nI (6 * j))), none, none, none] [] (c, o, dd, q) k n := by
  refine v_aload_n C dL_law_721 rfl ?_
  refine v_aload_n C dL_law_722 rfl ?_
  refine v_iload C dL_law_723 rfl ?_
  refine v_iconst C dL_law_725 (v := nI 1) (by decide) ?_
  refine v_iaddN C dL_law_726 ?_
  refine v_sld C Z (6 * j + 1) rfl (by omega) hL dL_law_727 ?_
  refine v_aload_n C dL_law_728 rfl ?_
  obtain ⟨dM, mc, ms, dq, post, px, pq, ⟨a1, a2, a3, a4⟩, M, Mq, hE, ⟨J1, J2⟩, hP⟩ := s_promise hl (κ := xK X) (h := h) (by omega) I (w (6 * j + 1))
  refine v_callSH C (hc_promise hl (κ := xK X) (h := h) (c := c) (o := o) (dd := dd) (q := q) a1 a2 a3 M hE) ysh_L_promise rfl ml_L_242 emb_id_lS rfl rfl rfl dL_law_729 (Nat.le_of_ble_eq_true rfl) hk hn (Nat.le_of_ble_eq_true rfl) (fun _ _ hz => hz.elim) (fun r u hu => ?_)
  rcases hu with ⟨v, c2, hp, rfl, rfl⟩ | ⟨e, c2, i, hp, hi, rfl, rfl⟩
  · skip
    refine v_istore C dL_law_732 rfl (Nat.le_of_ble_eq_true rfl) rfl ?_
    refine v_aload_n C dL_law_734 rfl ?_
    refine v_aload_n C dL_law_735 rfl ?_
    refine v_iload C dL_law_736 rfl ?_
    refine v_iconst C dL_law_738 (v := nI 1) (by decide) ?_
    refine v_iaddN C dL_law_739 ?_
    refine v_sld C Z (6 * j + 1) rfl (by omega) hL dL_law_740 ?_
    refine v_callVi C Mq ym_X6_promise ml_L_244 emb_l_q rfl rfl rfl rfl rfl dL_law_741 (by omega) (by omega) (by omega) (Nat.le_of_ble_eq_true rfl) (fun _ _ hz => hz.elim) (fun r2 u2 hq => ?_)
    obtain ⟨t0, rfl, hIV⟩ := J1 _ _ _ _ hp hq
    refine V.stt (g2 := (c2, vp_updL o 0 (cvI v), dd, u2)) rfl ?_
    refine v_istore C dL_law_744 rfl (Nat.le_of_ble_eq_true rfl) rfl ?_
    refine v_aload_n C dL_law_746 rfl ?_
    refine v_callVi C (c_X6_thrown hl t0) ym_X6_thrown ml_L_211 emb_l_q rfl rfl rfl rfl rfl dL_law_747 (Nat.le_of_ble_eq_true rfl) (by omega) (by omega) (Nat.le_of_ble_eq_true rfl) (fun _ _ hz => hz.elim) (fun r3 u3 hr => ?_)
    obtain ⟨hr, rfl⟩ := hr
    subst hr
    refine V.stt (g2 := (c2, vp_updL o 0 (cvI v), dd, u3)) rfl ?_
    refine v_iload C dL_law_750 rfl ?_
    refine v_icmp_eq C 757 dL_law_752 (by decide) (fun _ => ?_) (fun z => absurd rfl z)
    refine v_iload C dL_law_757 rfl ?_
    refine v_if_ne C 774 dL_law_759 (by decide) (fun z => absurd (by decide) z) (fun _ => ?_)
    refine v_aload_n C dL_law_762 rfl ?_
    refine v_iconst C dL_law_763 (v := nI 0) (by decide) ?_
    refine v_lald C aj_l (by decide) 0 (by decide) rfl dL_law_764 ?_
    refine v_iload C dL_law_765 rfl ?_
    refine v_i2l C dL_law_767 rfl ?_
    refine v_lcmp C dL_law_768 ?_
    refine v_if_eq C 774 dL_law_769 (by decide) (fun _ => ?_) (fun z => absurd (lg_out (o := o) (x := cvI v) (y := v.toInt64) rfl) z)
    refine v_goto C 3915 dL_law_774 (by decide) ?_
    refine V.sub (lo2 := [some (.ref b), some (.ref (h 0)), some (.ref (sh 126 h 0)), some (.ref (h 124)), some (.ref (h 125)), some (.int (nI (6 * j))), none, none, none]) ⟨rfl, rfl, rfl, rfl, rfl, rfl, trivial⟩ ?_
    exact back _ _ _ _ hIV
  · skip
    refine v_istore C dL_law_732 rfl (Nat.le_of_ble_eq_true rfl) rfl ?_
    refine v_aload_n C dL_law_734 rfl ?_
    refine v_aload_n C dL_law_735 rfl ?_
    refine v_iload C dL_law_736 rfl ?_
    refine v_iconst C dL_law_738 (v := nI 1) (by decide) ?_
    refine v_iaddN C dL_law_739 ?_
    refine v_sld C Z (6 * j + 1) rfl (by omega) hL dL_law_740 ?_
    refine v_callVi C Mq ym_X6_promise ml_L_244 emb_l_q rfl rfl rfl rfl rfl dL_law_741 (by omega) (by omega) (by omega) (Nat.le_of_ble_eq_true rfl) (fun _ _ hz => hz.elim) (fun r2 u2 hq => ?_)
    obtain ⟨i2, h2, hi3, t0, hIV⟩ := J2 _ _ _ _ hp hq
    obtain rfl := EL_inj nd_SO hi h2
    refine V.stt (g2 := (c2, o, dd, u2)) rfl ?_
    refine v_istore C dL_law_744 rfl (Nat.le_of_ble_eq_true rfl) rfl ?_
    refine v_aload_n C dL_law_746 rfl ?_
    refine v_callVi C (c_X6_thrown hl t0) ym_X6_thrown ml_L_211 emb_l_q rfl rfl rfl rfl rfl dL_law_747 (Nat.le_of_ble_eq_true rfl) (by omega) (by omega) (Nat.le_of_ble_eq_true rfl) (fun _ _ hz => hz.elim) (fun r3 u3 hr => ?_)
    obtain ⟨hr, rfl⟩ := hr
    subst hr
    refine V.stt (g2 := (c2, o, dd, u3)) rfl ?_
    refine v_iload C dL_law_750 rfl ?_
    refine v_icmp_eq C 757 dL_law_752 (by decide) (fun _ => ?_) (fun z => absurd rfl z)
    refine v_iload C dL_law_757 rfl ?_
    refine v_if_ne C 774 dL_law_759 (by decide) (fun _ => ?_) (fun z => absurd z (nI_pos3 hi3))
    refine v_goto C 3915 dL_law_774 (by decide) ?_
    refine V.sub (lo2 := [some (.ref b), some (.ref (h 0)), some (.ref (sh 126 h 0)), some (.ref (h 124)), some (.ref (h 125)), some (.int (nI (6 * j))), none, none, none]) ⟨rfl, rfl, rfl, rfl, rfl, rfl, trivial⟩ ?_
    exact back _ _ _ _ hIV
set_option maxHeartbeats 1000000 in
theorem k_11 {X : Cx} {kc ks : Nat} (hl : (xl X).stackTraces = false) (C : Ok SS MM X RL cL_law 9 30 kc ks) {b L : Nat} {w : Nat → Int32} (Z : Lok X b L w) {h : Nat → Nat} {j : Nat} (hj : 6 * j + 6 ≤ L) (hL : L ≤ 3072) {c : Cg} {o : Nat → Int64} {dd : Nat → UInt64} {q : G} (I : INV (20 + j) c q) {k n : Nat} (hk : k + 6 ≤ kc) (hn : n + 36 ≤ ks) (back : ∀ c2 o2 d2 q2, INV (20 + j + 1) c2 q2 → V X (lS (xK X) h) 3915 [some (.ref b), some (.ref (h 0)), some (.ref (sh 126 h 0)), some (.ref (h 124)), some (.ref (h 125)), some (.int (nI (6 * j))), none, none, none] [] (c2, o2, d2, q2) (k + 6) (n + 36)) : V X (lS (xK X) h) 777 [some (.ref b), some (.ref (h 0)), some (.ref (sh 126 h 0)), some (.ref (h 124)), some (.ref (h 125)), some (.int (nI (6 * j))), none, none, none] [] (c, o, dd, q) k n := by
  refine v_aload_n C dL_law_777 rfl ?_
  refine v_aload_n C dL_law_778 rfl ?_
  refine v_iload C dL_law_779 rfl ?_
  refine v_iconst C dL_law_781 (v := nI 1) (by decide) ?_
  refine v_iaddN C dL_law_782 ?_
  refine v_sld C Z (6 * j + 1) rfl (by omega) hL dL_law_783 ?_
  refine v_aload_n C dL_law_784 rfl ?_
  obtain ⟨dM, mc, ms, dq, post, px, pq, ⟨a1, a2, a3, a4⟩, M, Mq, hE, ⟨J1, J2⟩, hP⟩ := s_hops hl (κ := xK X) (h := h) (by omega) I (w (6 * j + 1))
  refine v_callSH C (hc_hops hl (κ := xK X) (h := h) (c := c) (o := o) (dd := dd) (q := q) a1 a2 a3 M hE) ysh_L_hops rfl ml_L_245 emb_id_lS rfl rfl rfl dL_law_785 (Nat.le_of_ble_eq_true rfl) hk hn (Nat.le_of_ble_eq_true rfl) (fun _ _ hz => hz.elim) (fun r u hu => ?_)
  rcases hu with ⟨v, c2, hp, rfl, rfl⟩ | ⟨e, c2, i, hp, hi, rfl, rfl⟩
  · skip
    refine v_istore C dL_law_788 rfl (Nat.le_of_ble_eq_true rfl) rfl ?_
    refine v_aload_n C dL_law_790 rfl ?_
    refine v_aload_n C dL_law_791 rfl ?_
    refine v_iload C dL_law_792 rfl ?_
    refine v_iconst C dL_law_794 (v := nI 1) (by decide) ?_
    refine v_iaddN C dL_law_795 ?_
    refine v_sld C Z (6 * j + 1) rfl (by omega) hL dL_law_796 ?_
    refine v_callVi C Mq ym_X6_hops ml_L_247 emb_l_q rfl rfl rfl rfl rfl dL_law_797 (by omega) (by omega) (by omega) (Nat.le_of_ble_eq_true rfl) (fun _ _ hz => hz.elim) (fun r2 u2 hq => ?_)
    obtain ⟨t0, rfl, hIV⟩ := J1 _ _ _ _ hp hq
    refine V.stt (g2 := (c2, vp_updL o 0 (cvI v), dd, u2)) rfl ?_
    refine v_istore C dL_law_800 rfl (Nat.le_of_ble_eq_true rfl) rfl ?_
    refine v_aload_n C dL_law_802 rfl ?_
    refine v_callVi C (c_X6_thrown hl t0) ym_X6_thrown ml_L_211 emb_l_q rfl rfl rfl rfl rfl dL_law_803 (Nat.le_of_ble_eq_true rfl) (by omega) (by omega) (Nat.le_of_ble_eq_true rfl) (fun _ _ hz => hz.elim) (fun r3 u3 hr => ?_)
    obtain ⟨hr, rfl⟩ := hr
    subst hr
    refine V.stt (g2 := (c2, vp_updL o 0 (cvI v), dd, u3)) rfl ?_
    refine v_iload C dL_law_806 rfl ?_
    refine v_icmp_eq C 813 dL_law_808 (by decide) (fun _ => ?_) (fun z => absurd rfl z)
    refine v_iload C dL_law_813 rfl ?_
    refine v_if_ne C 830 dL_law_815 (by decide) (fun z => absurd (by decide) z) (fun _ => ?_)
    refine v_aload_n C dL_law_818 rfl ?_
    refine v_iconst C dL_law_819 (v := nI 0) (by decide) ?_
    refine v_lald C aj_l (by decide) 0 (by decide) rfl dL_law_820 ?_
    refine v_iload C dL_law_821 rfl ?_
    refine v_i2l C dL_law_823 rfl ?_
    refine v_lcmp C dL_law_824 ?_
    refine v_if_eq C 830 dL_law_825 (by decide) (fun _ => ?_) (fun z => absurd (lg_out (o := o) (x := cvI v) (y := v.toInt64) rfl) z)
    refine v_goto C 3915 dL_law_830 (by decide) ?_
    refine V.sub (lo2 := [some (.ref b), some (.ref (h 0)), some (.ref (sh 126 h 0)), some (.ref (h 124)), some (.ref (h 125)), some (.int (nI (6 * j))), none, none, none]) ⟨rfl, rfl, rfl, rfl, rfl, rfl, trivial⟩ ?_
    exact back _ _ _ _ hIV
  · skip
    refine v_istore C dL_law_788 rfl (Nat.le_of_ble_eq_true rfl) rfl ?_
    refine v_aload_n C dL_law_790 rfl ?_
    refine v_aload_n C dL_law_791 rfl ?_
    refine v_iload C dL_law_792 rfl ?_
    refine v_iconst C dL_law_794 (v := nI 1) (by decide) ?_
    refine v_iaddN C dL_law_795 ?_
    refine v_sld C Z (6 * j + 1) rfl (by omega) hL dL_law_796 ?_
    refine v_callVi C Mq ym_X6_hops ml_L_247 emb_l_q rfl rfl rfl rfl rfl dL_law_797 (by omega) (by omega) (by omega) (Nat.le_of_ble_eq_true rfl) (fun _ _ hz => hz.elim) (fun r2 u2 hq => ?_)
    obtain ⟨i2, h2, hi3, t0, hIV⟩ := J2 _ _ _ _ hp hq
    obtain rfl := EL_inj nd_SO hi h2
    refine V.stt (g2 := (c2, o, dd, u2)) rfl ?_
    refine v_istore C dL_law_800 rfl (Nat.le_of_ble_eq_true rfl) rfl ?_
    refine v_aload_n C dL_law_802 rfl ?_
    refine v_callVi C (c_X6_thrown hl t0) ym_X6_thrown ml_L_211 emb_l_q rfl rfl rfl rfl rfl dL_law_803 (Nat.le_of_ble_eq_true rfl) (by omega) (by omega) (Nat.le_of_ble_eq_true rfl) (fun _ _ hz => hz.elim) (fun r3 u3 hr => ?_)
    obtain ⟨hr, rfl⟩ := hr
    subst hr
    refine V.stt (g2 := (c2, o, dd, u3)) rfl ?_
    refine v_iload C dL_law_806 rfl ?_
    refine v_icmp_eq C 813 dL_law_808 (by decide) (fun _ => ?_) (fun z => absurd rfl z)
    refine v_iload C dL_law_813 rfl ?_
    refine v_if_ne C 830 dL_law_815 (by decide) (fun _ => ?_) (fun z => absurd z (nI_pos3 hi3))
    refine v_goto C 3915 dL_law_830 (by decide) ?_
    refine V.sub (lo2 := [some (.ref b), some (.ref (h 0)), some (.ref (sh 126 h 0)), some (.ref (h 124)), some (.ref (h 125)), some (.int (nI (6 * j))), none, none, none]) ⟨rfl, rfl, rfl, rfl, rfl, rfl, trivial⟩ ?_
    exact back _ _ _ _ hIV
set_option maxHeartbeats 1000000 in
theorem k_12 {X : Cx} {kc ks : Nat} (hl : (xl X).stackTraces = false) (C : Ok SS MM X RL cL_law 9 30 kc ks) {b L : Nat} {w : Nat → Int32} (Z : Lok X b L w) {h : Nat → Nat} {j : Nat} (hj : 6 * j + 6 ≤ L) (hL : L ≤ 3072) {c : Cg} {o : Nat → Int64} {dd : Nat → UInt64} {q : G} (I : INV (20 + j) c q) {k n : Nat} (hk : k + 6 ≤ kc) (hn : n + 36 ≤ ks) (back : ∀ c2 o2 d2 q2, INV (20 + j + 1) c2 q2 → V X (lS (xK X) h) 3915 [some (.ref b), some (.ref (h 0)), some (.ref (sh 126 h 0)), some (.ref (h 124)), some (.ref (h 125)), some (.int (nI (6 * j))), none, none, none] [] (c2, o2, d2, q2) (k + 6) (n + 36)) : V X (lS (xK X) h) 833 [some (.ref b), some (.ref (h 0)), some (.ref (sh 126 h 0)), some (.ref (h 124)), some (.ref (h 125)), some (.int (nI (6 * j))), none, none, none] [] (c, o, dd, q) k n := by
  refine v_aload_n C dL_law_833 rfl ?_
  refine v_aload_n C dL_law_834 rfl ?_
  refine v_iload C dL_law_835 rfl ?_
  refine v_iconst C dL_law_837 (v := nI 1) (by decide) ?_
  refine v_iaddN C dL_law_838 ?_
  refine v_sld C Z (6 * j + 1) rfl (by omega) hL dL_law_839 ?_
  refine v_aload_n C dL_law_840 rfl ?_
  obtain ⟨dM, mc, ms, dq, post, px, pq, ⟨a1, a2, a3, a4⟩, M, Mq, hE, ⟨J1, J2⟩, hP⟩ := s_root hl (κ := xK X) (h := h) (by omega) I (w (6 * j + 1))
  refine v_callSH C (hc_root hl (κ := xK X) (h := h) (c := c) (o := o) (dd := dd) (q := q) a1 a2 a3 M hE) ysh_L_root rfl ml_L_248 emb_id_lS rfl rfl rfl dL_law_841 (Nat.le_of_ble_eq_true rfl) hk hn (Nat.le_of_ble_eq_true rfl) (fun _ _ hz => hz.elim) (fun r u hu => ?_)
  rcases hu with ⟨v, c2, hp, rfl, rfl⟩ | ⟨e, c2, i, hp, hi, rfl, rfl⟩
  · skip
    refine v_istore C dL_law_844 rfl (Nat.le_of_ble_eq_true rfl) rfl ?_
    refine v_aload_n C dL_law_846 rfl ?_
    refine v_aload_n C dL_law_847 rfl ?_
    refine v_iload C dL_law_848 rfl ?_
    refine v_iconst C dL_law_850 (v := nI 1) (by decide) ?_
    refine v_iaddN C dL_law_851 ?_
    refine v_sld C Z (6 * j + 1) rfl (by omega) hL dL_law_852 ?_
    refine v_callVi C Mq ym_X6_root ml_L_250 emb_l_q rfl rfl rfl rfl rfl dL_law_853 (by omega) (by omega) (by omega) (Nat.le_of_ble_eq_true rfl) (fun _ _ hz => hz.elim) (fun r2 u2 hq => ?_)
    obtain ⟨t0, rfl, hIV⟩ := J1 _ _ _ _ hp hq
    refine V.stt (g2 := (c2, vp_updL o 0 (cvI v), dd, u2)) rfl ?_
    refine v_istore C dL_law_856 rfl (Nat.le_of_ble_eq_true rfl) rfl ?_
    refine v_aload_n C dL_law_858 rfl ?_
    refine v_callVi C (c_X6_thrown hl t0) ym_X6_thrown ml_L_211 emb_l_q rfl rfl rfl rfl rfl dL_law_859 (Nat.le_of_ble_eq_true rfl) (by omega) (by omega) (Nat.le_of_ble_eq_true rfl) (fun _ _ hz => hz.elim) (fun r3 u3 hr => ?_)
    obtain ⟨hr, rfl⟩ := hr
    subst hr
    refine V.stt (g2 := (c2, vp_updL o 0 (cvI v), dd, u3)) rfl ?_
    refine v_iload C dL_law_862 rfl ?_
    refine v_icmp_eq C 869 dL_law_864 (by decide) (fun _ => ?_) (fun z => absurd rfl z)
    refine v_iload C dL_law_869 rfl ?_
    refine v_if_ne C 886 dL_law_871 (by decide) (fun z => absurd (by decide) z) (fun _ => ?_)
    refine v_aload_n C dL_law_874 rfl ?_
    refine v_iconst C dL_law_875 (v := nI 0) (by decide) ?_
    refine v_lald C aj_l (by decide) 0 (by decide) rfl dL_law_876 ?_
    refine v_iload C dL_law_877 rfl ?_
    refine v_i2l C dL_law_879 rfl ?_
    refine v_lcmp C dL_law_880 ?_
    refine v_if_eq C 886 dL_law_881 (by decide) (fun _ => ?_) (fun z => absurd (lg_out (o := o) (x := cvI v) (y := v.toInt64) rfl) z)
    refine v_goto C 3915 dL_law_886 (by decide) ?_
    refine V.sub (lo2 := [some (.ref b), some (.ref (h 0)), some (.ref (sh 126 h 0)), some (.ref (h 124)), some (.ref (h 125)), some (.int (nI (6 * j))), none, none, none]) ⟨rfl, rfl, rfl, rfl, rfl, rfl, trivial⟩ ?_
    exact back _ _ _ _ hIV
  · skip
    refine v_istore C dL_law_844 rfl (Nat.le_of_ble_eq_true rfl) rfl ?_
    refine v_aload_n C dL_law_846 rfl ?_
    refine v_aload_n C dL_law_847 rfl ?_
    refine v_iload C dL_law_848 rfl ?_
    refine v_iconst C dL_law_850 (v := nI 1) (by decide) ?_
    refine v_iaddN C dL_law_851 ?_
    refine v_sld C Z (6 * j + 1) rfl (by omega) hL dL_law_852 ?_
    refine v_callVi C Mq ym_X6_root ml_L_250 emb_l_q rfl rfl rfl rfl rfl dL_law_853 (by omega) (by omega) (by omega) (Nat.le_of_ble_eq_true rfl) (fun _ _ hz => hz.elim) (fun r2 u2 hq => ?_)
    obtain ⟨i2, h2, hi3, t0, hIV⟩ := J2 _ _ _ _ hp hq
    obtain rfl := EL_inj nd_SO hi h2
    refine V.stt (g2 := (c2, o, dd, u2)) rfl ?_
    refine v_istore C dL_law_856 rfl (Nat.le_of_ble_eq_true rfl) rfl ?_
    refine v_aload_n C dL_law_858 rfl ?_
    refine v_callVi C (c_X6_thrown hl t0) ym_X6_thrown ml_L_211 emb_l_q rfl rfl rfl rfl rfl dL_law_859 (Nat.le_of_ble_eq_true rfl) (by omega) (by omega) (Nat.le_of_ble_eq_true rfl) (fun _ _ hz => hz.elim) (fun r3 u3 hr => ?_)
    obtain ⟨hr, rfl⟩ := hr
    subst hr
    refine V.stt (g2 := (c2, o, dd, u3)) rfl ?_
    refine v_iload C dL_law_862 rfl ?_
    refine v_icmp_eq C 869 dL_law_864 (by decide) (fun _ => ?_) (fun z => absurd rfl z)
    refine v_iload C dL_law_869 rfl ?_
    refine v_if_ne C 886 dL_law_871 (by decide) (fun _ => ?_) (fun z => absurd z (nI_pos3 hi3))
    refine v_goto C 3915 dL_law_886 (by decide) ?_
    refine V.sub (lo2 := [some (.ref b), some (.ref (h 0)), some (.ref (sh 126 h 0)), some (.ref (h 124)), some (.ref (h 125)), some (.int (nI (6 * j))), none, none, none]) ⟨rfl, rfl, rfl, rfl, rfl, rfl, trivial⟩ ?_
    exact back _ _ _ _ hIV
set_option maxHeartbeats 1000000 in
theorem k_13 {X : Cx} {kc ks : Nat} (hl : (xl X).stackTraces = false) (C : Ok SS MM X RL cL_law 9 30 kc ks) {b L : Nat} {w : Nat → Int32} (Z : Lok X b L w) {h : Nat → Nat} {j : Nat} (hj : 6 * j + 6 ≤ L) (hL : L ≤ 3072) {c : Cg} {o : Nat → Int64} {dd : Nat → UInt64} {q : G} (I : INV (20 + j) c q) {k n : Nat} (hk : k + 6 ≤ kc) (hn : n + 36 ≤ ks) (back : ∀ c2 o2 d2 q2, INV (20 + j + 1) c2 q2 → V X (lS (xK X) h) 3915 [some (.ref b), some (.ref (h 0)), some (.ref (sh 126 h 0)), some (.ref (h 124)), some (.ref (h 125)), some (.int (nI (6 * j))), none, none, none] [] (c2, o2, d2, q2) (k + 6) (n + 36)) : V X (lS (xK X) h) 889 [some (.ref b), some (.ref (h 0)), some (.ref (sh 126 h 0)), some (.ref (h 124)), some (.ref (h 125)), some (.int (nI (6 * j))), none, none, none] [] (c, o, dd, q) k n := by
  refine v_aload_n C dL_law_889 rfl ?_
  refine v_aload_n C dL_law_890 rfl ?_
  refine v_iload C dL_law_891 rfl ?_
  refine v_iconst C dL_law_893 (v := nI 1) (by decide) ?_
  refine v_iaddN C dL_law_894 ?_
  refine v_sld C Z (6 * j + 1) rfl (by omega) hL dL_law_895 ?_
  refine v_aload_n C dL_law_896 rfl ?_
  obtain ⟨dM, mc, ms, dq, post, px, pq, ⟨a1, a2, a3, a4⟩, M, Mq, hE, ⟨J1, J2⟩, hP⟩ := s_isLocked hl (κ := xK X) (h := h) (by omega) I (w (6 * j + 1))
  refine v_callSH C (hc_isLocked hl (κ := xK X) (h := h) (c := c) (o := o) (dd := dd) (q := q) a1 a2 a3 M hE) ysh_L_isLocked rfl ml_L_251 emb_id_lS rfl rfl rfl dL_law_897 (Nat.le_of_ble_eq_true rfl) hk hn (Nat.le_of_ble_eq_true rfl) (fun _ _ hz => hz.elim) (fun r u hu => ?_)
  rcases hu with ⟨v, c2, hp, rfl, rfl⟩ | ⟨e, c2, i, hp, hi, rfl, rfl⟩
  · skip
    refine v_istore C dL_law_900 rfl (Nat.le_of_ble_eq_true rfl) rfl ?_
    refine v_aload_n C dL_law_902 rfl ?_
    refine v_aload_n C dL_law_903 rfl ?_
    refine v_iload C dL_law_904 rfl ?_
    refine v_iconst C dL_law_906 (v := nI 1) (by decide) ?_
    refine v_iaddN C dL_law_907 ?_
    refine v_sld C Z (6 * j + 1) rfl (by omega) hL dL_law_908 ?_
    refine v_callVi C Mq ym_X6_isLocked ml_L_253 emb_l_q rfl rfl rfl rfl rfl dL_law_909 (by omega) (by omega) (by omega) (Nat.le_of_ble_eq_true rfl) (fun _ _ hz => hz.elim) (fun r2 u2 hq => ?_)
    obtain ⟨t0, rfl, hIV⟩ := J1 _ _ _ _ hp hq
    refine V.stt (g2 := (c2, vp_updL o 0 (cvZ v), dd, u2)) rfl ?_
    refine v_istore C dL_law_912 rfl (Nat.le_of_ble_eq_true rfl) rfl ?_
    refine v_aload_n C dL_law_914 rfl ?_
    refine v_callVi C (c_X6_thrown hl t0) ym_X6_thrown ml_L_211 emb_l_q rfl rfl rfl rfl rfl dL_law_915 (Nat.le_of_ble_eq_true rfl) (by omega) (by omega) (Nat.le_of_ble_eq_true rfl) (fun _ _ hz => hz.elim) (fun r3 u3 hr => ?_)
    obtain ⟨hr, rfl⟩ := hr
    subst hr
    refine V.stt (g2 := (c2, vp_updL o 0 (cvZ v), dd, u3)) rfl ?_
    refine v_iload C dL_law_918 rfl ?_
    refine v_icmp_eq C 925 dL_law_920 (by decide) (fun _ => ?_) (fun z => absurd rfl z)
    refine v_iload C dL_law_925 rfl ?_
    refine v_if_ne C 949 dL_law_927 (by decide) (fun z => absurd (by decide) z) (fun _ => ?_)
    refine v_aload_n C dL_law_930 rfl ?_
    refine v_iconst C dL_law_931 (v := nI 0) (by decide) ?_
    refine v_lald C aj_l (by decide) 0 (by decide) rfl dL_law_932 ?_
    refine v_iload C dL_law_933 rfl ?_
    refine v_if_eq C 942 dL_law_935 (by decide) (fun hz => ?_) (fun hz => ?_)
    · skip
      refine v_lconst C dL_law_942 (v := 0) (by decide) ?_
      refine v_lcmp C dL_law_943 ?_
      refine v_if_eq C 949 dL_law_944 (by decide) (fun _ => ?_) (fun z => absurd (lg_out (o := o) (x := cvZ v) (y := 0) (if_pos hz)) z)
      refine v_goto C 3915 dL_law_949 (by decide) ?_
      refine V.sub (lo2 := [some (.ref b), some (.ref (h 0)), some (.ref (sh 126 h 0)), some (.ref (h 124)), some (.ref (h 125)), some (.int (nI (6 * j))), none, none, none]) ⟨rfl, rfl, rfl, rfl, rfl, rfl, trivial⟩ ?_
      exact back _ _ _ _ hIV
    · skip
      refine v_lconst C dL_law_938 (v := 1) (by decide) ?_
      refine v_goto C 943 dL_law_939 (by decide) ?_
      refine v_lcmp C dL_law_943 ?_
      refine v_if_eq C 949 dL_law_944 (by decide) (fun _ => ?_) (fun z => absurd (lg_out (o := o) (x := cvZ v) (y := 1) (if_neg hz)) z)
      refine v_goto C 3915 dL_law_949 (by decide) ?_
      refine V.sub (lo2 := [some (.ref b), some (.ref (h 0)), some (.ref (sh 126 h 0)), some (.ref (h 124)), some (.ref (h 125)), some (.int (nI (6 * j))), none, none, none]) ⟨rfl, rfl, rfl, rfl, rfl, rfl, trivial⟩ ?_
      exact back _ _ _ _ hIV
  · skip
    refine v_istore C dL_law_900 rfl (Nat.le_of_ble_eq_true rfl) rfl ?_
    refine v_aload_n C dL_law_902 rfl ?_
    refine v_aload_n C dL_law_903 rfl ?_
    refine v_iload C dL_law_904 rfl ?_
    refine v_iconst C dL_law_906 (v := nI 1) (by decide) ?_
    refine v_iaddN C dL_law_907 ?_
    refine v_sld C Z (6 * j + 1) rfl (by omega) hL dL_law_908 ?_
    refine v_callVi C Mq ym_X6_isLocked ml_L_253 emb_l_q rfl rfl rfl rfl rfl dL_law_909 (by omega) (by omega) (by omega) (Nat.le_of_ble_eq_true rfl) (fun _ _ hz => hz.elim) (fun r2 u2 hq => ?_)
    obtain ⟨i2, h2, hi3, t0, hIV⟩ := J2 _ _ _ _ hp hq
    obtain rfl := EL_inj nd_SO hi h2
    refine V.stt (g2 := (c2, o, dd, u2)) rfl ?_
    refine v_istore C dL_law_912 rfl (Nat.le_of_ble_eq_true rfl) rfl ?_
    refine v_aload_n C dL_law_914 rfl ?_
    refine v_callVi C (c_X6_thrown hl t0) ym_X6_thrown ml_L_211 emb_l_q rfl rfl rfl rfl rfl dL_law_915 (Nat.le_of_ble_eq_true rfl) (by omega) (by omega) (Nat.le_of_ble_eq_true rfl) (fun _ _ hz => hz.elim) (fun r3 u3 hr => ?_)
    obtain ⟨hr, rfl⟩ := hr
    subst hr
    refine V.stt (g2 := (c2, o, dd, u3)) rfl ?_
    refine v_iload C dL_law_918 rfl ?_
    refine v_icmp_eq C 925 dL_law_920 (by decide) (fun _ => ?_) (fun z => absurd rfl z)
    refine v_iload C dL_law_925 rfl ?_
    refine v_if_ne C 949 dL_law_927 (by decide) (fun _ => ?_) (fun z => absurd z (nI_pos3 hi3))
    refine v_goto C 3915 dL_law_949 (by decide) ?_
    refine V.sub (lo2 := [some (.ref b), some (.ref (h 0)), some (.ref (sh 126 h 0)), some (.ref (h 124)), some (.ref (h 125)), some (.int (nI (6 * j))), none, none, none]) ⟨rfl, rfl, rfl, rfl, rfl, rfl, trivial⟩ ?_
    exact back _ _ _ _ hIV
set_option maxHeartbeats 1000000 in
theorem k_14 {X : Cx} {kc ks : Nat} (hl : (xl X).stackTraces = false) (C : Ok SS MM X RL cL_law 9 30 kc ks) {b L : Nat} {w : Nat → Int32} (Z : Lok X b L w) {h : Nat → Nat} {j : Nat} (hj : 6 * j + 6 ≤ L) (hL : L ≤ 3072) {c : Cg} {o : Nat → Int64} {dd : Nat → UInt64} {q : G} (I : INV (20 + j) c q) {k n : Nat} (hk : k + 6 ≤ kc) (hn : n + 36 ≤ ks) (back : ∀ c2 o2 d2 q2, INV (20 + j + 1) c2 q2 → V X (lS (xK X) h) 3915 [some (.ref b), some (.ref (h 0)), some (.ref (sh 126 h 0)), some (.ref (h 124)), some (.ref (h 125)), some (.int (nI (6 * j))), none, none, none] [] (c2, o2, d2, q2) (k + 6) (n + 36)) : V X (lS (xK X) h) 952 [some (.ref b), some (.ref (h 0)), some (.ref (sh 126 h 0)), some (.ref (h 124)), some (.ref (h 125)), some (.int (nI (6 * j))), none, none, none] [] (c, o, dd, q) k n := by
  by_cases hw : w (6 * j + 2) = 0
  · skip
    refine v_aload_n C dL_law_952 rfl ?_
    refine v_aload_n C dL_law_953 rfl ?_
    refine v_iload C dL_law_954 rfl ?_
    refine v_iconst C dL_law_956 (v := nI 1) (by decide) ?_
    refine v_iaddN C dL_law_957 ?_
    refine v_sld C Z (6 * j + 1) rfl (by omega) hL dL_law_958 ?_
    refine v_aload_n C dL_law_959 rfl ?_
    refine v_iload C dL_law_960 rfl ?_
    refine v_iconst C dL_law_962 (v := nI 2) (by decide) ?_
    refine v_iaddN C dL_law_963 ?_
    refine v_sld C Z (6 * j + 2) rfl (by omega) hL dL_law_964 ?_
    refine v_if_eq C 972 dL_law_965 (by decide) (fun _ => ?_) (fun z => absurd hw z)
    refine v_iconst C dL_law_972 (v := nI 0) (by decide) ?_
    refine v_aload_n C dL_law_973 rfl ?_
    obtain ⟨dM, mc, ms, dq, post, px, pq, ⟨a1, a2, a3, a4⟩, M, Mq, hE, ⟨J1, J2⟩, hP⟩ := s_dependents hl (κ := xK X) (h := h) (by omega) I (w (6 * j + 1)) false
    refine v_callSH C (hc_dependents hl (κ := xK X) (h := h) (c := c) (o := o) (dd := dd) (q := q) a1 a2 a3 M hE) ysh_L_dependents rfl ml_L_254 emb_id_lS rfl rfl rfl dL_law_974 (Nat.le_of_ble_eq_true rfl) hk hn (Nat.le_of_ble_eq_true rfl) (fun _ _ hz => hz.elim) (fun r u hu => ?_)
    rcases hu with ⟨v, c2, hp, rfl, rfl⟩ | ⟨e, c2, i, hp, hi, rfl, rfl⟩
    · skip
      refine v_istore C dL_law_977 rfl (Nat.le_of_ble_eq_true rfl) rfl ?_
      refine v_aload_n C dL_law_979 rfl ?_
      refine v_aload_n C dL_law_980 rfl ?_
      refine v_iload C dL_law_981 rfl ?_
      refine v_iconst C dL_law_983 (v := nI 1) (by decide) ?_
      refine v_iaddN C dL_law_984 ?_
      refine v_sld C Z (6 * j + 1) rfl (by omega) hL dL_law_985 ?_
      refine v_aload_n C dL_law_986 rfl ?_
      refine v_iload C dL_law_987 rfl ?_
      refine v_iconst C dL_law_989 (v := nI 2) (by decide) ?_
      refine v_iaddN C dL_law_990 ?_
      refine v_sld C Z (6 * j + 2) rfl (by omega) hL dL_law_991 ?_
      refine v_if_eq C 999 dL_law_992 (by decide) (fun _ => ?_) (fun z => absurd hw z)
      refine v_iconst C dL_law_999 (v := nI 0) (by decide) ?_
      refine v_callVi C Mq ym_X6_dependents ml_L_257 emb_l_q rfl rfl rfl rfl rfl dL_law_1000 (by omega) (by omega) (by omega) (Nat.le_of_ble_eq_true rfl) (fun _ _ hz => hz.elim) (fun r2 u2 hq => ?_)
      obtain ⟨t0, rfl, hIV⟩ := J1 _ _ _ _ hp hq
      refine V.stt (g2 := (c2, vp_updL o 0 (cvI v), dd, u2)) rfl ?_
      refine v_istore C dL_law_1003 rfl (Nat.le_of_ble_eq_true rfl) rfl ?_
      refine v_aload_n C dL_law_1005 rfl ?_
      refine v_callVi C (c_X6_thrown hl t0) ym_X6_thrown ml_L_211 emb_l_q rfl rfl rfl rfl rfl dL_law_1006 (Nat.le_of_ble_eq_true rfl) (by omega) (by omega) (Nat.le_of_ble_eq_true rfl) (fun _ _ hz => hz.elim) (fun r3 u3 hr => ?_)
      obtain ⟨hr, rfl⟩ := hr
      subst hr
      refine V.stt (g2 := (c2, vp_updL o 0 (cvI v), dd, u3)) rfl ?_
      refine v_iload C dL_law_1009 rfl ?_
      refine v_icmp_eq C 1016 dL_law_1011 (by decide) (fun _ => ?_) (fun z => absurd rfl z)
      refine v_iload C dL_law_1016 rfl ?_
      refine v_if_ne C 1033 dL_law_1018 (by decide) (fun z => absurd (by decide) z) (fun _ => ?_)
      refine v_aload_n C dL_law_1021 rfl ?_
      refine v_iconst C dL_law_1022 (v := nI 0) (by decide) ?_
      refine v_lald C aj_l (by decide) 0 (by decide) rfl dL_law_1023 ?_
      refine v_iload C dL_law_1024 rfl ?_
      refine v_i2l C dL_law_1026 rfl ?_
      refine v_lcmp C dL_law_1027 ?_
      refine v_if_eq C 1033 dL_law_1028 (by decide) (fun _ => ?_) (fun z => absurd (lg_out (o := o) (x := cvI v) (y := v.toInt64) rfl) z)
      refine v_goto C 3915 dL_law_1033 (by decide) ?_
      refine V.sub (lo2 := [some (.ref b), some (.ref (h 0)), some (.ref (sh 126 h 0)), some (.ref (h 124)), some (.ref (h 125)), some (.int (nI (6 * j))), none, none, none]) ⟨rfl, rfl, rfl, rfl, rfl, rfl, trivial⟩ ?_
      exact back _ _ _ _ hIV
    · skip
      refine v_istore C dL_law_977 rfl (Nat.le_of_ble_eq_true rfl) rfl ?_
      refine v_aload_n C dL_law_979 rfl ?_
      refine v_aload_n C dL_law_980 rfl ?_
      refine v_iload C dL_law_981 rfl ?_
      refine v_iconst C dL_law_983 (v := nI 1) (by decide) ?_
      refine v_iaddN C dL_law_984 ?_
      refine v_sld C Z (6 * j + 1) rfl (by omega) hL dL_law_985 ?_
      refine v_aload_n C dL_law_986 rfl ?_
      refine v_iload C dL_law_987 rfl ?_
      refine v_iconst C dL_law_989 (v := nI 2) (by decide) ?_
      refine v_iaddN C dL_law_990 ?_
      refine v_sld C Z (6 * j + 2) rfl (by omega) hL dL_law_991 ?_
      refine v_if_eq C 999 dL_law_992 (by decide) (fun _ => ?_) (fun z => absurd hw z)
      refine v_iconst C dL_law_999 (v := nI 0) (by decide) ?_
      refine v_callVi C Mq ym_X6_dependents ml_L_257 emb_l_q rfl rfl rfl rfl rfl dL_law_1000 (by omega) (by omega) (by omega) (Nat.le_of_ble_eq_true rfl) (fun _ _ hz => hz.elim) (fun r2 u2 hq => ?_)
      obtain ⟨i2, h2, hi3, t0, hIV⟩ := J2 _ _ _ _ hp hq
      obtain rfl := EL_inj nd_SO hi h2
      refine V.stt (g2 := (c2, o, dd, u2)) rfl ?_
      refine v_istore C dL_law_1003 rfl (Nat.le_of_ble_eq_true rfl) rfl ?_
      refine v_aload_n C dL_law_1005 rfl ?_
      refine v_callVi C (c_X6_thrown hl t0) ym_X6_thrown ml_L_211 emb_l_q rfl rfl rfl rfl rfl dL_law_1006 (Nat.le_of_ble_eq_true rfl) (by omega) (by omega) (Nat.le_of_ble_eq_true rfl) (fun _ _ hz => hz.elim) (fun r3 u3 hr => ?_)
      obtain ⟨hr, rfl⟩ := hr
      subst hr
      refine V.stt (g2 := (c2, o, dd, u3)) rfl ?_
      refine v_iload C dL_law_1009 rfl ?_
      refine v_icmp_eq C 1016 dL_law_1011 (by decide) (fun _ => ?_) (fun z => absurd rfl z)
      refine v_iload C dL_law_1016 rfl ?_
      refine v_if_ne C 1033 dL_law_1018 (by decide) (fun _ => ?_) (fun z => absurd z (nI_pos3 hi3))
      refine v_goto C 3915 dL_law_1033 (by decide) ?_
      refine V.sub (lo2 := [some (.ref b), some (.ref (h 0)), some (.ref (sh 126 h 0)), some (.ref (h 124)), some (.ref (h 125)), some (.int (nI (6 * j))), none, none, none]) ⟨rfl, rfl, rfl, rfl, rfl, rfl, trivial⟩ ?_
      exact back _ _ _ _ hIV
  · skip
    refine v_aload_n C dL_law_952 rfl ?_
    refine v_aload_n C dL_law_953 rfl ?_
    refine v_iload C dL_law_954 rfl ?_
    refine v_iconst C dL_law_956 (v := nI 1) (by decide) ?_
    refine v_iaddN C dL_law_957 ?_
    refine v_sld C Z (6 * j + 1) rfl (by omega) hL dL_law_958 ?_
    refine v_aload_n C dL_law_959 rfl ?_
    refine v_iload C dL_law_960 rfl ?_
    refine v_iconst C dL_law_962 (v := nI 2) (by decide) ?_
    refine v_iaddN C dL_law_963 ?_
    refine v_sld C Z (6 * j + 2) rfl (by omega) hL dL_law_964 ?_
    refine v_if_eq C 972 dL_law_965 (by decide) (fun z => absurd z hw) (fun _ => ?_)
    refine v_iconst C dL_law_968 (v := nI 1) (by decide) ?_
    refine v_goto C 973 dL_law_969 (by decide) ?_
    refine v_aload_n C dL_law_973 rfl ?_
    obtain ⟨dM, mc, ms, dq, post, px, pq, ⟨a1, a2, a3, a4⟩, M, Mq, hE, ⟨J1, J2⟩, hP⟩ := s_dependents hl (κ := xK X) (h := h) (by omega) I (w (6 * j + 1)) true
    refine v_callSH C (hc_dependents hl (κ := xK X) (h := h) (c := c) (o := o) (dd := dd) (q := q) a1 a2 a3 M hE) ysh_L_dependents rfl ml_L_254 emb_id_lS rfl rfl rfl dL_law_974 (Nat.le_of_ble_eq_true rfl) hk hn (Nat.le_of_ble_eq_true rfl) (fun _ _ hz => hz.elim) (fun r u hu => ?_)
    rcases hu with ⟨v, c2, hp, rfl, rfl⟩ | ⟨e, c2, i, hp, hi, rfl, rfl⟩
    · skip
      refine v_istore C dL_law_977 rfl (Nat.le_of_ble_eq_true rfl) rfl ?_
      refine v_aload_n C dL_law_979 rfl ?_
      refine v_aload_n C dL_law_980 rfl ?_
      refine v_iload C dL_law_981 rfl ?_
      refine v_iconst C dL_law_983 (v := nI 1) (by decide) ?_
      refine v_iaddN C dL_law_984 ?_
      refine v_sld C Z (6 * j + 1) rfl (by omega) hL dL_law_985 ?_
      refine v_aload_n C dL_law_986 rfl ?_
      refine v_iload C dL_law_987 rfl ?_
      refine v_iconst C dL_law_989 (v := nI 2) (by decide) ?_
      refine v_iaddN C dL_law_990 ?_
      refine v_sld C Z (6 * j + 2) rfl (by omega) hL dL_law_991 ?_
      refine v_if_eq C 999 dL_law_992 (by decide) (fun z => absurd z hw) (fun _ => ?_)
      refine v_iconst C dL_law_995 (v := nI 1) (by decide) ?_
      refine v_goto C 1000 dL_law_996 (by decide) ?_
      refine v_callVi C Mq ym_X6_dependents ml_L_257 emb_l_q rfl rfl rfl rfl rfl dL_law_1000 (by omega) (by omega) (by omega) (Nat.le_of_ble_eq_true rfl) (fun _ _ hz => hz.elim) (fun r2 u2 hq => ?_)
      obtain ⟨t0, rfl, hIV⟩ := J1 _ _ _ _ hp hq
      refine V.stt (g2 := (c2, vp_updL o 0 (cvI v), dd, u2)) rfl ?_
      refine v_istore C dL_law_1003 rfl (Nat.le_of_ble_eq_true rfl) rfl ?_
      refine v_aload_n C dL_law_1005 rfl ?_
      refine v_callVi C (c_X6_thrown hl t0) ym_X6_thrown ml_L_211 emb_l_q rfl rfl rfl rfl rfl dL_law_1006 (Nat.le_of_ble_eq_true rfl) (by omega) (by omega) (Nat.le_of_ble_eq_true rfl) (fun _ _ hz => hz.elim) (fun r3 u3 hr => ?_)
      obtain ⟨hr, rfl⟩ := hr
      subst hr
      refine V.stt (g2 := (c2, vp_updL o 0 (cvI v), dd, u3)) rfl ?_
      refine v_iload C dL_law_1009 rfl ?_
      refine v_icmp_eq C 1016 dL_law_1011 (by decide) (fun _ => ?_) (fun z => absurd rfl z)
      refine v_iload C dL_law_1016 rfl ?_
      refine v_if_ne C 1033 dL_law_1018 (by decide) (fun z => absurd (by decide) z) (fun _ => ?_)
      refine v_aload_n C dL_law_1021 rfl ?_
      refine v_iconst C dL_law_1022 (v := nI 0) (by decide) ?_
      refine v_lald C aj_l (by decide) 0 (by decide) rfl dL_law_1023 ?_
      refine v_iload C dL_law_1024 rfl ?_
      refine v_i2l C dL_law_1026 rfl ?_
      refine v_lcmp C dL_law_1027 ?_
      refine v_if_eq C 1033 dL_law_1028 (by decide) (fun _ => ?_) (fun z => absurd (lg_out (o := o) (x := cvI v) (y := v.toInt64) rfl) z)
      refine v_goto C 3915 dL_law_1033 (by decide) ?_
      refine V.sub (lo2 := [some (.ref b), some (.ref (h 0)), some (.ref (sh 126 h 0)), some (.ref (h 124)), some (.ref (h 125)), some (.int (nI (6 * j))), none, none, none]) ⟨rfl, rfl, rfl, rfl, rfl, rfl, trivial⟩ ?_
      exact back _ _ _ _ hIV
    · skip
      refine v_istore C dL_law_977 rfl (Nat.le_of_ble_eq_true rfl) rfl ?_
      refine v_aload_n C dL_law_979 rfl ?_
      refine v_aload_n C dL_law_980 rfl ?_
      refine v_iload C dL_law_981 rfl ?_
      refine v_iconst C dL_law_983 (v := nI 1) (by decide) ?_
      refine v_iaddN C dL_law_984 ?_
      refine v_sld C Z (6 * j + 1) rfl (by omega) hL dL_law_985 ?_
      refine v_aload_n C dL_law_986 rfl ?_
      refine v_iload C dL_law_987 rfl ?_
      refine v_iconst C dL_law_989 (v := nI 2) (by decide) ?_
      refine v_iaddN C dL_law_990 ?_
      refine v_sld C Z (6 * j + 2) rfl (by omega) hL dL_law_991 ?_
      refine v_if_eq C 999 dL_law_992 (by decide) (fun z => absurd z hw) (fun _ => ?_)
      refine v_iconst C dL_law_995 (v := nI 1) (by decide) ?_
      refine v_goto C 1000 dL_law_996 (by decide) ?_
      refine v_callVi C Mq ym_X6_dependents ml_L_257 emb_l_q rfl rfl rfl rfl rfl dL_law_1000 (by omega) (by omega) (by omega) (Nat.le_of_ble_eq_true rfl) (fun _ _ hz => hz.elim) (fun r2 u2 hq => ?_)
      obtain ⟨i2, h2, hi3, t0, hIV⟩ := J2 _ _ _ _ hp hq
      obtain rfl := EL_inj nd_SO hi h2
      refine V.stt (g2 := (c2, o, dd, u2)) rfl ?_
      refine v_istore C dL_law_1003 rfl (Nat.le_of_ble_eq_true rfl) rfl ?_
      refine v_aload_n C dL_law_1005 rfl ?_
      refine v_callVi C (c_X6_thrown hl t0) ym_X6_thrown ml_L_211 emb_l_q rfl rfl rfl rfl rfl dL_law_1006 (Nat.le_of_ble_eq_true rfl) (by omega) (by omega) (Nat.le_of_ble_eq_true rfl) (fun _ _ hz => hz.elim) (fun r3 u3 hr => ?_)
      obtain ⟨hr, rfl⟩ := hr
      subst hr
      refine V.stt (g2 := (c2, o, dd, u3)) rfl ?_
      refine v_iload C dL_law_1009 rfl ?_
      refine v_icmp_eq C 1016 dL_law_1011 (by decide) (fun _ => ?_) (fun z => absurd rfl z)
      refine v_iload C dL_law_1016 rfl ?_
      refine v_if_ne C 1033 dL_law_1018 (by decide) (fun _ => ?_) (fun z => absurd z (nI_pos3 hi3))
      refine v_goto C 3915 dL_law_1033 (by decide) ?_
      refine V.sub (lo2 := [some (.ref b), some (.ref (h 0)), some (.ref (sh 126 h 0)), some (.ref (h 124)), some (.ref (h 125)), some (.int (nI (6 * j))), none, none, none]) ⟨rfl, rfl, rfl, rfl, rfl, rfl, trivial⟩ ?_
      exact back _ _ _ _ hIV
set_option maxHeartbeats 1000000 in
theorem k_15 {X : Cx} {kc ks : Nat} (hl : (xl X).stackTraces = false) (C : Ok SS MM X RL cL_law 9 30 kc ks) {b L : Nat} {w : Nat → Int32} (Z : Lok X b L w) {h : Nat → Nat} {j : Nat} (hj : 6 * j + 6 ≤ L) (hL : L ≤ 3072) {c : Cg} {o : Nat → Int64} {dd : Nat → UInt64} {q : G} (I : INV (20 + j) c q) {k n : Nat} (hk : k + 6 ≤ kc) (hn : n + 36 ≤ ks) (back : ∀ c2 o2 d2 q2, INV (20 + j + 1) c2 q2 → V X (lS (xK X) h) 3915 [some (.ref b), some (.ref (h 0)), some (.ref (sh 126 h 0)), some (.ref (h 124)), some (.ref (h 125)), some (.int (nI (6 * j))), none, none, none] [] (c2, o2, d2, q2) (k + 6) (n + 36)) : V X (lS (xK X) h) 1036 [some (.ref b), some (.ref (h 0)), some (.ref (sh 126 h 0)), some (.ref (h 124)), some (.ref (h 125)), some (.int (nI (6 * j))), none, none, none] [] (c, o, dd, q) k n := by
  refine v_aload_n C dL_law_1036 rfl ?_
  refine v_aload_n C dL_law_1037 rfl ?_
  obtain ⟨dM, mc, ms, dq, post, px, pq, ⟨a1, a2, a3, a4⟩, M, Mq, hE, ⟨J1, J2⟩, hP⟩ := s_owed hl (κ := xK X) (h := h) (by omega) I
  refine v_callSH C (hc_owed hl (κ := xK X) (h := h) (c := c) (o := o) (dd := dd) (q := q) a1 a2 a3 M hE) ysh_L_owed rfl ml_L_258 emb_id_lS rfl rfl rfl dL_law_1038 (Nat.le_of_ble_eq_true rfl) hk hn (Nat.le_of_ble_eq_true rfl) (fun _ _ hz => hz.elim) (fun r u hu => ?_)
  rcases hu with ⟨v, c2, hp, rfl, rfl⟩ | ⟨e, c2, i, hp, hi, rfl, rfl⟩
  · skip
    refine v_istore C dL_law_1041 rfl (Nat.le_of_ble_eq_true rfl) rfl ?_
    refine v_aload_n C dL_law_1043 rfl ?_
    refine v_callVi C Mq ym_X6_owed ml_L_261 emb_l_q rfl rfl rfl rfl rfl dL_law_1044 (by omega) (by omega) (by omega) (Nat.le_of_ble_eq_true rfl) (fun _ _ hz => hz.elim) (fun r2 u2 hq => ?_)
    obtain ⟨t0, rfl, hIV⟩ := J1 _ _ _ _ hp hq
    refine V.stt (g2 := (c2, vp_updL o 0 (cvI v), dd, u2)) rfl ?_
    refine v_istore C dL_law_1047 rfl (Nat.le_of_ble_eq_true rfl) rfl ?_
    refine v_aload_n C dL_law_1049 rfl ?_
    refine v_callVi C (c_X6_thrown hl t0) ym_X6_thrown ml_L_211 emb_l_q rfl rfl rfl rfl rfl dL_law_1050 (Nat.le_of_ble_eq_true rfl) (by omega) (by omega) (Nat.le_of_ble_eq_true rfl) (fun _ _ hz => hz.elim) (fun r3 u3 hr => ?_)
    obtain ⟨hr, rfl⟩ := hr
    subst hr
    refine V.stt (g2 := (c2, vp_updL o 0 (cvI v), dd, u3)) rfl ?_
    refine v_iload C dL_law_1053 rfl ?_
    refine v_icmp_eq C 1060 dL_law_1055 (by decide) (fun _ => ?_) (fun z => absurd rfl z)
    refine v_iload C dL_law_1060 rfl ?_
    refine v_if_ne C 1077 dL_law_1062 (by decide) (fun z => absurd (by decide) z) (fun _ => ?_)
    refine v_aload_n C dL_law_1065 rfl ?_
    refine v_iconst C dL_law_1066 (v := nI 0) (by decide) ?_
    refine v_lald C aj_l (by decide) 0 (by decide) rfl dL_law_1067 ?_
    refine v_iload C dL_law_1068 rfl ?_
    refine v_i2l C dL_law_1070 rfl ?_
    refine v_lcmp C dL_law_1071 ?_
    refine v_if_eq C 1077 dL_law_1072 (by decide) (fun _ => ?_) (fun z => absurd (lg_out (o := o) (x := cvI v) (y := v.toInt64) rfl) z)
    refine v_goto C 3915 dL_law_1077 (by decide) ?_
    refine V.sub (lo2 := [some (.ref b), some (.ref (h 0)), some (.ref (sh 126 h 0)), some (.ref (h 124)), some (.ref (h 125)), some (.int (nI (6 * j))), none, none, none]) ⟨rfl, rfl, rfl, rfl, rfl, rfl, trivial⟩ ?_
    exact back _ _ _ _ hIV
  · skip
    refine v_istore C dL_law_1041 rfl (Nat.le_of_ble_eq_true rfl) rfl ?_
    refine v_aload_n C dL_law_1043 rfl ?_
    refine v_callVi C Mq ym_X6_owed ml_L_261 emb_l_q rfl rfl rfl rfl rfl dL_law_1044 (by omega) (by omega) (by omega) (Nat.le_of_ble_eq_true rfl) (fun _ _ hz => hz.elim) (fun r2 u2 hq => ?_)
    obtain ⟨i2, h2, hi3, t0, hIV⟩ := J2 _ _ _ _ hp hq
    obtain rfl := EL_inj nd_S hi h2
    refine V.stt (g2 := (c2, o, dd, u2)) rfl ?_
    refine v_istore C dL_law_1047 rfl (Nat.le_of_ble_eq_true rfl) rfl ?_
    refine v_aload_n C dL_law_1049 rfl ?_
    refine v_callVi C (c_X6_thrown hl t0) ym_X6_thrown ml_L_211 emb_l_q rfl rfl rfl rfl rfl dL_law_1050 (Nat.le_of_ble_eq_true rfl) (by omega) (by omega) (Nat.le_of_ble_eq_true rfl) (fun _ _ hz => hz.elim) (fun r3 u3 hr => ?_)
    obtain ⟨hr, rfl⟩ := hr
    subst hr
    refine V.stt (g2 := (c2, o, dd, u3)) rfl ?_
    refine v_iload C dL_law_1053 rfl ?_
    refine v_icmp_eq C 1060 dL_law_1055 (by decide) (fun _ => ?_) (fun z => absurd rfl z)
    refine v_iload C dL_law_1060 rfl ?_
    refine v_if_ne C 1077 dL_law_1062 (by decide) (fun _ => ?_) (fun z => absurd z (nI_pos3 hi3))
    refine v_goto C 3915 dL_law_1077 (by decide) ?_
    refine V.sub (lo2 := [some (.ref b), some (.ref (h 0)), some (.ref (sh 126 h 0)), some (.ref (h 124)), some (.ref (h 125)), some (.int (nI (6 * j))), none, none, none]) ⟨rfl, rfl, rfl, rfl, rfl, rfl, trivial⟩ ?_
    exact back _ _ _ _ hIV
