set_option maxHeartbeats 2000000 in
theorem lw_end {X : Cx} {g h e : Nat → Nat} {n bs d i K0 N0 : Nat} {m : Mg} {u : Cg}  (hl : (xl X).stackTraces = false) (C : Ok SS MM X RL cL_law 5 30 600086 7301442) (F : FinL X bs) (hG : GU m u) (hI : LI n m) (hK0 : K0 ≤ 599000) (hN0 : N0 ≤ 7290000)  : V X iW 200 [some (.ref bs), some (.ref d), some (.ref (h 0)), some (.ref (g 0)), none] [] (cS (xK X) g u ++ (lmW (xK X) h n (m, e, m 6 0) ++ dS (xK X) d i)) K0 N0 := by
  obtain ⟨s, ⟨sT, mT⟩, rr, hh, sl, tx, L0, rfl, hH⟩ := hG
  obtain ⟨cM, hW⟩ := hI.wm
  have n1 := hI.n1
  have h14 := hI.1
  have hIM := hI.im
  have hn31 : n < 2 ^ 31 := by omega
  refine v_aload_n C dL_law_200 rfl ?_
  refine v_gFN (K := fun w => cS (xK X) g ((s, m), (sT, mT), rr, hh, sl, tx) ++ (w ++ dS (xK X) d (i))) C (Cxt.l _ (Cxt.r _ Cxt.id)) (v := .ref (h 1)) 0 fln_L_154 lm_0 rfl dL_law_201 ?_
  refine v_lenA (K := fun w => cS (xK X) g ((s, m), (sT, mT), rr, hh, sl, tx) ++ (w ++ dS (xK X) d (i))) C (Cxt.l _ (Cxt.r _ Cxt.id)) (N := n) 3 1 rfl lm_1 rfl dL_law_204 ?_
  refine v_istore C (lo2 := [some _, some _, some _, some _, some _]) dL_law_205 rfl (Nat.le_of_ble_eq_true rfl) rfl ?_
  refine v_aload_n C dL_law_207 rfl ?_
  refine v_iconst (v := nI 0) C dL_law_208 (by decide) ?_
  refine v_iconst (v := nI 5) C dL_law_209 (by decide) ?_
  refine v_iconst (v := nI 0) C dL_law_210 (by decide) ?_
  refine v_iconst (v := nI 0) C dL_law_211 (by decide) ?_
  refine v_gSHi (K := fun w => w ++ (lmW (xK X) h n (m, e, m 6 0) ++ dS (xK X) d (i))) C (Cxt.r _ Cxt.id) (c_thrown hl (Nat.le_of_ble_eq_true rfl) (Nat.le_of_ble_eq_true rfl) (c_calls_0 (b := _) (c := _) hl (by decide) (c_X5_setting hl hW)) (fun _ _ hu => by
      obtain ⟨_, _, hz, _⟩ := hu
      have hy := hz.1.1
      rw [(cdx_i n1 (show inB (nI 5) 0 4 = false by decide))] at hy
      exact absurd hy (by decide)) (fun _ _ hp => tA_E hp.1)) ysh_L_thrown ml_L_226 rfl rfl dL_law_212 (Nat.le_of_ble_eq_true rfl) (by first | omega | exact Nat.le_of_ble_eq_true rfl) (by first | omega | exact Nat.le_of_ble_eq_true rfl) (Nat.le_of_ble_eq_true rfl) (fun _ _ hu => hu.elim) (fun r u hu => ?_)
  obtain ⟨e9, u9, hp, rfl, rfl⟩ := hu
  rw [show exN e9 = 3 from ex_A ((cdx_i n1 (show inB (nI 5) 0 4 = false by decide))) hp.1]
  obtain ⟨s, ⟨sT, mT⟩, rfl⟩ := hp.2
  refine v_iconst (v := nI 3) C dL_law_215 (by decide) ?_
  refine v_icmp_ne C 298 dL_law_216 (by decide) (fun c => absurd c (by decide)) (fun c216 => ?_)
  refine v_aload_n C dL_law_219 rfl ?_
  refine v_iconst (v := nI 1) C dL_law_220 (by decide) ?_
  refine v_iload C dL_law_221 rfl ?_
  refine v_iconst (v := nI 0) C dL_law_223 (by decide) ?_
  refine v_iconst (v := nI 0) C dL_law_224 (by decide) ?_
  refine v_gSHi (K := fun w => w ++ (lmW (xK X) h n (m, e, m 6 0) ++ dS (xK X) d (i))) C (Cxt.r _ Cxt.id) (c_thrown hl (Nat.le_of_ble_eq_true rfl) (Nat.le_of_ble_eq_true rfl) (c_calls_1 (b := _) (c := _) hl (by decide) (c_X5_value hl hW)) (fun _ _ hu => by
      obtain ⟨_, _, hz, _⟩ := hu
      have hy := hz.1.1
      rw [(cdx_p n1 (pl_nn hn31))] at hy
      exact absurd hy (by decide)) (fun _ _ hp => ts_E hp.1)) ysh_L_thrown ml_L_226 rfl rfl dL_law_225 (Nat.le_of_ble_eq_true rfl) (by first | omega | exact Nat.le_of_ble_eq_true rfl) (by first | omega | exact Nat.le_of_ble_eq_true rfl) (Nat.le_of_ble_eq_true rfl) (fun _ _ hu => hu.elim) (fun r u hu => ?_)
  obtain ⟨e9, u9, hp, rfl, rfl⟩ := hu
  rw [show exN e9 = 2 from ex_3 ((cdx_p n1 (pl_nn hn31))) hp.1]
  obtain ⟨s, ⟨sT, mT⟩, rfl⟩ := hp.2
  refine v_iconst (v := nI 2) C dL_law_228 (by decide) ?_
  refine v_icmp_ne C 298 dL_law_229 (by decide) (fun c => absurd c (by decide)) (fun c229 => ?_)
  refine v_aload_n C dL_law_232 rfl ?_
  refine v_iconst (v := nI 2) C dL_law_233 (by decide) ?_
  refine v_iconst (v := (-1)) C dL_law_234 (by decide) ?_
  refine v_iconst (v := nI 0) C dL_law_235 (by decide) ?_
  refine v_iconst (v := nI 0) C dL_law_236 (by decide) ?_
  refine v_gSHi (K := fun w => w ++ (lmW (xK X) h n (m, e, m 6 0) ++ dS (xK X) d (i))) C (Cxt.r _ Cxt.id) (c_thrown hl (Nat.le_of_ble_eq_true rfl) (Nat.le_of_ble_eq_true rfl) (c_calls_2 (b := _) (c := _) hl (by decide) (c_X5_dependents hl hW)) (fun _ _ hu => by
      obtain ⟨_, _, hz, _⟩ := hu
      have hy := hz.1.1
      rw [(cdx_p n1 pl_m1)] at hy
      exact absurd hy (by decide)) (fun _ _ hp => ts_E hp.1)) ysh_L_thrown ml_L_226 rfl rfl dL_law_237 (Nat.le_of_ble_eq_true rfl) (by first | omega | exact Nat.le_of_ble_eq_true rfl) (by first | omega | exact Nat.le_of_ble_eq_true rfl) (Nat.le_of_ble_eq_true rfl) (fun _ _ hu => hu.elim) (fun r u hu => ?_)
  obtain ⟨e9, u9, hp, rfl, rfl⟩ := hu
  rw [show exN e9 = 2 from ex_3 ((cdx_p n1 pl_m1)) hp.1]
  obtain ⟨s, ⟨sT, mT⟩, rfl⟩ := hp.2
  refine v_iconst (v := nI 2) C dL_law_240 (by decide) ?_
  refine v_icmp_ne C 298 dL_law_241 (by decide) (fun c => absurd c (by decide)) (fun c241 => ?_)
  refine v_aload_n C dL_law_244 rfl ?_
  refine v_iconst (v := nI 5) C dL_law_245 (by decide) ?_
  refine v_sipush (v := nI 256) C dL_law_246 (by decide) ?_
  refine v_iconst (v := nI 0) C dL_law_249 (by decide) ?_
  refine v_iconst (v := nI 0) C dL_law_250 (by decide) ?_
  refine v_gSHi (K := fun w => w ++ (lmW (xK X) h n (m, e, m 6 0) ++ dS (xK X) d (i))) C (Cxt.r _ Cxt.id) (c_thrown hl (Nat.le_of_ble_eq_true rfl) (Nat.le_of_ble_eq_true rfl) (c_calls_5 (b := _) (c := _) hl (by decide) (c_X5_find hl hW)) (fun _ _ hu => by
      obtain ⟨_, _, hz, _⟩ := hu
      have hy := hz.1.1
      rw [(cdx_v n1 (pl_00 n1) (show inB (nI 256) 0 255 = false by decide))] at hy
      exact absurd hy (by decide)) (fun _ _ hp => ts_E hp.1)) ysh_L_thrown ml_L_226 rfl rfl dL_law_251 (Nat.le_of_ble_eq_true rfl) (by first | omega | exact Nat.le_of_ble_eq_true rfl) (by first | omega | exact Nat.le_of_ble_eq_true rfl) (Nat.le_of_ble_eq_true rfl) (fun _ _ hu => hu.elim) (fun r u hu => ?_)
  obtain ⟨e9, u9, hp, rfl, rfl⟩ := hu
  rw [show exN e9 = 3 from ex_3 ((cdx_v n1 (pl_00 n1) (show inB (nI 256) 0 255 = false by decide))) hp.1]
  obtain ⟨s, ⟨sT, mT⟩, rfl⟩ := hp.2
  refine v_iconst (v := nI 3) C dL_law_254 (by decide) ?_
  refine v_icmp_ne C 298 dL_law_255 (by decide) (fun c => absurd c (by decide)) (fun c255 => ?_)
  refine v_aload_n C dL_law_258 rfl ?_
  refine v_iconst (v := nI 5) C dL_law_259 (by decide) ?_
  refine v_iconst (v := nI 0) C dL_law_260 (by decide) ?_
  refine v_iload C dL_law_261 rfl ?_
  refine v_iconst (v := nI 0) C dL_law_263 (by decide) ?_
  refine v_gSHi (K := fun w => w ++ (lmW (xK X) h n (m, e, m 6 0) ++ dS (xK X) d (i))) C (Cxt.r _ Cxt.id) (c_thrown hl (Nat.le_of_ble_eq_true rfl) (Nat.le_of_ble_eq_true rfl) (c_calls_5 (b := _) (c := _) hl (by decide) (c_X5_find hl hW)) (fun _ _ hu => by
      obtain ⟨_, _, hz, _⟩ := hu
      have hy := hz.1.1
      rw [(cdx_p n1 (pl_nn hn31))] at hy
      exact absurd hy (by decide)) (fun _ _ hp => ts_E hp.1)) ysh_L_thrown ml_L_226 rfl rfl dL_law_264 (Nat.le_of_ble_eq_true rfl) (by first | omega | exact Nat.le_of_ble_eq_true rfl) (by first | omega | exact Nat.le_of_ble_eq_true rfl) (Nat.le_of_ble_eq_true rfl) (fun _ _ hu => hu.elim) (fun r u hu => ?_)
  obtain ⟨e9, u9, hp, rfl, rfl⟩ := hu
  rw [show exN e9 = 2 from ex_3 ((cdx_p n1 (pl_nn hn31))) hp.1]
  obtain ⟨s, ⟨sT, mT⟩, rfl⟩ := hp.2
  refine v_iconst (v := nI 2) C dL_law_267 (by decide) ?_
  refine v_icmp_ne C 298 dL_law_268 (by decide) (fun c => absurd c (by decide)) (fun c268 => ?_)
  refine v_aload_n C dL_law_271 rfl ?_
  refine v_bipush (v := nI 11) C dL_law_272 (by decide) ?_
  refine v_bipush (v := nI 9) C dL_law_274 (by decide) ?_
  refine v_iconst (v := nI 0) C dL_law_276 (by decide) ?_
  refine v_iconst (v := nI 0) C dL_law_277 (by decide) ?_
  refine v_gSHi (K := fun w => w ++ (lmW (xK X) h n (m, e, m 6 0) ++ dS (xK X) d (i))) C (Cxt.r _ Cxt.id) (c_thrown hl (Nat.le_of_ble_eq_true rfl) (Nat.le_of_ble_eq_true rfl) (c_calls_11 (b := _) (c := _) hl (by decide) (c_X5_account hl hW)) (fun _ _ hu => by
      obtain ⟨_, _, hz, _⟩ := hu
      have hy := hz.1.1
      rw [(cdx_i n1 (show inB (nI 9) 0 8 = false by decide))] at hy
      exact absurd hy (by decide)) (fun _ _ hp => tA_E hp.1)) ysh_L_thrown ml_L_226 rfl rfl dL_law_278 (Nat.le_of_ble_eq_true rfl) (by first | omega | exact Nat.le_of_ble_eq_true rfl) (by first | omega | exact Nat.le_of_ble_eq_true rfl) (Nat.le_of_ble_eq_true rfl) (fun _ _ hu => hu.elim) (fun r u hu => ?_)
  obtain ⟨e9, u9, hp, rfl, rfl⟩ := hu
  rw [show exN e9 = 3 from ex_A ((cdx_i n1 (show inB (nI 9) 0 8 = false by decide))) hp.1]
  obtain ⟨s, ⟨sT, mT⟩, rfl⟩ := hp.2
  refine v_iconst (v := nI 3) C dL_law_281 (by decide) ?_
  refine v_icmp_ne C 298 dL_law_282 (by decide) (fun c => absurd c (by decide)) (fun c282 => ?_)
  refine v_aload_n C dL_law_285 rfl ?_
  refine v_iconst (v := nI 4) C dL_law_286 (by decide) ?_
  refine v_iconst (v := nI 0) C dL_law_287 (by decide) ?_
  refine v_iload C dL_law_288 rfl ?_
  refine v_iconst (v := nI 0) C dL_law_290 (by decide) ?_
  refine v_gSHi (K := fun w => w ++ (lmW (xK X) h n (m, e, m 6 0) ++ dS (xK X) d (i))) C (Cxt.r _ Cxt.id) (c_thrown hl (Nat.le_of_ble_eq_true rfl) (Nat.le_of_ble_eq_true rfl) (c_calls_4 (b := _) (c := _) hl (by decide) (c_X5_sum hl hW)) (fun _ _ hu => by
      obtain ⟨_, _, hz, _⟩ := hu
      have hy := hz.1.1
      rw [(cdx_q n1 (pl_00 n1) (pl_nn hn31))] at hy
      exact absurd hy (by decide)) (fun _ _ hp => ts_E hp.1)) ysh_L_thrown ml_L_226 rfl rfl dL_law_291 (Nat.le_of_ble_eq_true rfl) (by first | omega | exact Nat.le_of_ble_eq_true rfl) (by first | omega | exact Nat.le_of_ble_eq_true rfl) (Nat.le_of_ble_eq_true rfl) (fun _ _ hu => hu.elim) (fun r u hu => ?_)
  obtain ⟨e9, u9, hp, rfl, rfl⟩ := hu
  rw [show exN e9 = 2 from ex_3 ((cdx_q n1 (pl_00 n1) (pl_nn hn31))) hp.1]
  obtain ⟨s, ⟨sT, mT⟩, rfl⟩ := hp.2
  refine v_iconst (v := nI 2) C dL_law_294 (by decide) ?_
  refine v_icmp_eq C 300 dL_law_295 (by decide) (fun c295 => ?_) (fun c => absurd c (by decide))
  refine v_aload_n C dL_law_300 rfl ?_
  refine v_bipush (v := nI 16) C dL_law_301 (by decide) ?_
  refine v_iload C dL_law_303 rfl ?_
  refine v_iconst (v := nI 0) C dL_law_305 (by decide) ?_
  refine v_iconst (v := nI 0) C dL_law_306 (by decide) ?_
  refine v_gSHi (K := fun w => w ++ (lmW (xK X) h n (m, e, m 6 0) ++ dS (xK X) d (i))) C (Cxt.r _ Cxt.id) (c_thrown hl (Nat.le_of_ble_eq_true rfl) (Nat.le_of_ble_eq_true rfl) (c_calls_16 (b := _) (c := _) hl (by decide) (c_X5_write hl hW hH)) (fun _ _ hu => by
      obtain ⟨_, _, hz, _⟩ := hu
      have hy := hz.1.1
      rw [(cdx_p n1 (pl_nn hn31))] at hy
      exact absurd hy (by decide)) (fun _ _ hp => ts_E hp.1)) ysh_L_thrown ml_L_226 rfl rfl dL_law_307 (Nat.le_of_ble_eq_true rfl) (by first | omega | exact Nat.le_of_ble_eq_true rfl) (by first | omega | exact Nat.le_of_ble_eq_true rfl) (Nat.le_of_ble_eq_true rfl) (fun _ _ hu => hu.elim) (fun r u hu => ?_)
  obtain ⟨e9, u9, hp, rfl, rfl⟩ := hu
  rw [show exN e9 = 2 from ex_3 ((cdx_p n1 (pl_nn hn31))) hp.1]
  obtain ⟨s, ⟨sT, mT⟩, rfl⟩ := hp.2
  refine v_iconst (v := nI 2) C dL_law_310 (by decide) ?_
  refine v_icmp_ne C 422 dL_law_311 (by decide) (fun c => absurd c (by decide)) (fun c311 => ?_)
  refine v_aload_n C dL_law_314 rfl ?_
  refine v_bipush (v := nI 16) C dL_law_315 (by decide) ?_
  refine v_iconst (v := nI 0) C dL_law_317 (by decide) ?_
  refine v_sipush (v := nI 256) C dL_law_318 (by decide) ?_
  refine v_iconst (v := nI 0) C dL_law_321 (by decide) ?_
  refine v_gSHi (K := fun w => w ++ (lmW (xK X) h n (m, e, m 6 0) ++ dS (xK X) d (i))) C (Cxt.r _ Cxt.id) (c_thrown hl (Nat.le_of_ble_eq_true rfl) (Nat.le_of_ble_eq_true rfl) (c_calls_16 (b := _) (c := _) hl (by decide) (c_X5_write hl hW hH)) (fun _ _ hu => by
      obtain ⟨_, _, hz, _⟩ := hu
      have hy := hz.1.1
      rw [(cdx_v n1 (pl_00 n1) (show inB (nI 256) 0 255 = false by decide))] at hy
      exact absurd hy (by decide)) (fun _ _ hp => ts_E hp.1)) ysh_L_thrown ml_L_226 rfl rfl dL_law_322 (Nat.le_of_ble_eq_true rfl) (by first | omega | exact Nat.le_of_ble_eq_true rfl) (by first | omega | exact Nat.le_of_ble_eq_true rfl) (Nat.le_of_ble_eq_true rfl) (fun _ _ hu => hu.elim) (fun r u hu => ?_)
  obtain ⟨e9, u9, hp, rfl, rfl⟩ := hu
  rw [show exN e9 = 3 from ex_3 ((cdx_v n1 (pl_00 n1) (show inB (nI 256) 0 255 = false by decide))) hp.1]
  obtain ⟨s, ⟨sT, mT⟩, rfl⟩ := hp.2
  refine v_iconst (v := nI 3) C dL_law_325 (by decide) ?_
  refine v_icmp_ne C 422 dL_law_326 (by decide) (fun c => absurd c (by decide)) (fun c326 => ?_)
  refine v_aload_n C dL_law_329 rfl ?_
  refine v_bipush (v := nI 18) C dL_law_330 (by decide) ?_
  refine v_iconst (v := (-1)) C dL_law_332 (by decide) ?_
  refine v_iconst (v := nI 0) C dL_law_333 (by decide) ?_
  refine v_iconst (v := nI 0) C dL_law_334 (by decide) ?_
  refine v_gSHi (K := fun w => w ++ (lmW (xK X) h n (m, e, m 6 0) ++ dS (xK X) d (i))) C (Cxt.r _ Cxt.id) (c_thrown hl (Nat.le_of_ble_eq_true rfl) (Nat.le_of_ble_eq_true rfl) (c_calls_18 (b := _) (c := _) hl (by decide) (c_X5_fetch hl hW hH)) (fun _ _ hu => by
      obtain ⟨_, _, hz, _⟩ := hu
      have hy := hz.1.1
      rw [(cdx_p n1 pl_m1)] at hy
      exact absurd hy (by decide)) (fun _ _ hp => ts_E hp.1)) ysh_L_thrown ml_L_226 rfl rfl dL_law_335 (Nat.le_of_ble_eq_true rfl) (by first | omega | exact Nat.le_of_ble_eq_true rfl) (by first | omega | exact Nat.le_of_ble_eq_true rfl) (Nat.le_of_ble_eq_true rfl) (fun _ _ hu => hu.elim) (fun r u hu => ?_)
  obtain ⟨e9, u9, hp, rfl, rfl⟩ := hu
  rw [show exN e9 = 2 from ex_3 ((cdx_p n1 pl_m1)) hp.1]
  obtain ⟨s, ⟨sT, mT⟩, rfl⟩ := hp.2
  refine v_iconst (v := nI 2) C dL_law_338 (by decide) ?_
  refine v_icmp_ne C 422 dL_law_339 (by decide) (fun c => absurd c (by decide)) (fun c339 => ?_)
  refine v_aload_n C dL_law_342 rfl ?_
  refine v_bipush (v := nI 19) C dL_law_343 (by decide) ?_
  refine v_iconst (v := nI 0) C dL_law_345 (by decide) ?_
  refine v_iconst (v := nI 0) C dL_law_346 (by decide) ?_
  refine v_iconst (v := nI 0) C dL_law_347 (by decide) ?_
  refine v_gSHi (K := fun w => w ++ (lmW (xK X) h n (m, e, m 6 0) ++ dS (xK X) d (i))) C (Cxt.r _ Cxt.id) (c_thrown hl (Nat.le_of_ble_eq_true rfl) (Nat.le_of_ble_eq_true rfl) (c_calls_19 (b := _) (c := _) hl (by decide) (c_X5_tick hl hW hH)) (fun _ _ hu => by
      obtain ⟨_, _, hz, _⟩ := hu
      have hy := hz.1.1
      rw [(cdx_i n1 (show inB (nI 0) 1 100 = false by decide))] at hy
      exact absurd hy (by decide)) (fun _ _ hp => tA_E hp.1)) ysh_L_thrown ml_L_226 rfl rfl dL_law_348 (Nat.le_of_ble_eq_true rfl) (by first | omega | exact Nat.le_of_ble_eq_true rfl) (by first | omega | exact Nat.le_of_ble_eq_true rfl) (Nat.le_of_ble_eq_true rfl) (fun _ _ hu => hu.elim) (fun r u hu => ?_)
  obtain ⟨e9, u9, hp, rfl, rfl⟩ := hu
  rw [show exN e9 = 3 from ex_A ((cdx_i n1 (show inB (nI 0) 1 100 = false by decide))) hp.1]
  obtain ⟨s, ⟨sT, mT⟩, rfl⟩ := hp.2
  refine v_iconst (v := nI 3) C dL_law_351 (by decide) ?_
  refine v_icmp_ne C 422 dL_law_352 (by decide) (fun c => absurd c (by decide)) (fun c352 => ?_)
  refine v_aload_n C dL_law_355 rfl ?_
  refine v_bipush (v := nI 19) C dL_law_356 (by decide) ?_
  refine v_bipush (v := nI 101) C dL_law_358 (by decide) ?_
  refine v_iconst (v := nI 0) C dL_law_360 (by decide) ?_
  refine v_iconst (v := nI 0) C dL_law_361 (by decide) ?_
  refine v_gSHi (K := fun w => w ++ (lmW (xK X) h n (m, e, m 6 0) ++ dS (xK X) d (i))) C (Cxt.r _ Cxt.id) (c_thrown hl (Nat.le_of_ble_eq_true rfl) (Nat.le_of_ble_eq_true rfl) (c_calls_19 (b := _) (c := _) hl (by decide) (c_X5_tick hl hW hH)) (fun _ _ hu => by
      obtain ⟨_, _, hz, _⟩ := hu
      have hy := hz.1.1
      rw [(cdx_i n1 (show inB (nI 101) 1 100 = false by decide))] at hy
      exact absurd hy (by decide)) (fun _ _ hp => tA_E hp.1)) ysh_L_thrown ml_L_226 rfl rfl dL_law_362 (Nat.le_of_ble_eq_true rfl) (by first | omega | exact Nat.le_of_ble_eq_true rfl) (by first | omega | exact Nat.le_of_ble_eq_true rfl) (Nat.le_of_ble_eq_true rfl) (fun _ _ hu => hu.elim) (fun r u hu => ?_)
  obtain ⟨e9, u9, hp, rfl, rfl⟩ := hu
  rw [show exN e9 = 3 from ex_A ((cdx_i n1 (show inB (nI 101) 1 100 = false by decide))) hp.1]
  obtain ⟨s, ⟨sT, mT⟩, rfl⟩ := hp.2
  refine v_iconst (v := nI 3) C dL_law_365 (by decide) ?_
  refine v_icmp_ne C 422 dL_law_366 (by decide) (fun c => absurd c (by decide)) (fun c366 => ?_)
  refine v_aload_n C dL_law_369 rfl ?_
  refine v_bipush (v := nI 20) C dL_law_370 (by decide) ?_
  refine v_iconst (v := nI 0) C dL_law_372 (by decide) ?_
  refine v_iload C dL_law_373 rfl ?_
  refine v_iconst (v := nI 0) C dL_law_375 (by decide) ?_
  refine v_gSHi (K := fun w => w ++ (lmW (xK X) h n (m, e, m 6 0) ++ dS (xK X) d (i))) C (Cxt.r _ Cxt.id) (c_thrown hl (Nat.le_of_ble_eq_true rfl) (Nat.le_of_ble_eq_true rfl) (c_calls_20 (b := _) (c := _) hl (by decide) (c_X5_payRange hl hW hH)) (fun _ _ hu => by
      obtain ⟨_, _, hz, _⟩ := hu
      have hy := hz.1.1
      rw [(cdx_q n1 (pl_00 n1) (pl_nn hn31))] at hy
      exact absurd hy (by decide)) (fun _ _ hp => ts_E hp.1)) ysh_L_thrown ml_L_226 rfl rfl dL_law_376 (Nat.le_of_ble_eq_true rfl) (by first | omega | exact Nat.le_of_ble_eq_true rfl) (by first | omega | exact Nat.le_of_ble_eq_true rfl) (Nat.le_of_ble_eq_true rfl) (fun _ _ hu => hu.elim) (fun r u hu => ?_)
  obtain ⟨e9, u9, hp, rfl, rfl⟩ := hu
  rw [show exN e9 = 2 from ex_3 ((cdx_q n1 (pl_00 n1) (pl_nn hn31))) hp.1]
  obtain ⟨s, ⟨sT, mT⟩, rfl⟩ := hp.2
  refine v_iconst (v := nI 2) C dL_law_379 (by decide) ?_
  refine v_icmp_ne C 422 dL_law_380 (by decide) (fun c => absurd c (by decide)) (fun c380 => ?_)
  refine v_aload_n C dL_law_383 rfl ?_
  refine v_bipush (v := nI 21) C dL_law_384 (by decide) ?_
  refine v_iload C dL_law_386 rfl ?_
  refine v_iconst (v := nI 1) C dL_law_388 (by decide) ?_
  refine v_iconst (v := nI 0) C dL_law_389 (by decide) ?_
  refine v_gSHi (K := fun w => w ++ (lmW (xK X) h n (m, e, m 6 0) ++ dS (xK X) d (i))) C (Cxt.r _ Cxt.id) (c_thrown hl (Nat.le_of_ble_eq_true rfl) (Nat.le_of_ble_eq_true rfl) (c_calls_21 (b := _) (c := _) hl (by decide) (c_X5_setLock hl hW hH)) (fun _ _ hu => by
      obtain ⟨_, _, hz, _⟩ := hu
      have hy := hz.1.1
      rw [(cdx_p n1 (pl_nn hn31))] at hy
      exact absurd hy (by decide)) (fun _ _ hp => ts_E hp.1)) ysh_L_thrown ml_L_226 rfl rfl dL_law_390 (Nat.le_of_ble_eq_true rfl) (by first | omega | exact Nat.le_of_ble_eq_true rfl) (by first | omega | exact Nat.le_of_ble_eq_true rfl) (Nat.le_of_ble_eq_true rfl) (fun _ _ hu => hu.elim) (fun r u hu => ?_)
  obtain ⟨e9, u9, hp, rfl, rfl⟩ := hu
  rw [show exN e9 = 2 from ex_3 ((cdx_p n1 (pl_nn hn31))) hp.1]
  obtain ⟨s, ⟨sT, mT⟩, rfl⟩ := hp.2
  refine v_iconst (v := nI 2) C dL_law_393 (by decide) ?_
  refine v_icmp_ne C 422 dL_law_394 (by decide) (fun c => absurd c (by decide)) (fun c394 => ?_)
  refine v_aload_n C dL_law_397 rfl ?_
  refine v_bipush (v := nI 22) C dL_law_398 (by decide) ?_
  refine v_iconst (v := nI 5) C dL_law_400 (by decide) ?_
  refine v_iconst (v := nI 0) C dL_law_401 (by decide) ?_
  refine v_iconst (v := nI 0) C dL_law_402 (by decide) ?_
  refine v_gSHi (K := fun w => w ++ (lmW (xK X) h n (m, e, m 6 0) ++ dS (xK X) d (i))) C (Cxt.r _ Cxt.id) (c_thrown hl (Nat.le_of_ble_eq_true rfl) (Nat.le_of_ble_eq_true rfl) (c_calls_22 (b := _) (c := _) hl (by decide) (c_X5_setSetting hl hW hH)) (fun _ _ hu => by
      obtain ⟨_, _, hz, _⟩ := hu
      have hy := hz.1.1
      rw [(cdx_i n1 (show inB (nI 5) 0 4 = false by decide))] at hy
      exact absurd hy (by decide)) (fun _ _ hp => tA_E hp.1)) ysh_L_thrown ml_L_226 rfl rfl dL_law_403 (Nat.le_of_ble_eq_true rfl) (by first | omega | exact Nat.le_of_ble_eq_true rfl) (by first | omega | exact Nat.le_of_ble_eq_true rfl) (Nat.le_of_ble_eq_true rfl) (fun _ _ hu => hu.elim) (fun r u hu => ?_)
  obtain ⟨e9, u9, hp, rfl, rfl⟩ := hu
  rw [show exN e9 = 3 from ex_A ((cdx_i n1 (show inB (nI 5) 0 4 = false by decide))) hp.1]
  obtain ⟨s, ⟨sT, mT⟩, rfl⟩ := hp.2
  refine v_iconst (v := nI 3) C dL_law_406 (by decide) ?_
  refine v_icmp_ne C 422 dL_law_407 (by decide) (fun c => absurd c (by decide)) (fun c407 => ?_)
  refine v_aload_n C dL_law_410 rfl ?_
  refine v_aload_n C dL_law_411 rfl ?_
  refine V.stt (g2 := (cS (xK X) g ((s, m), (sT, mT), rr, hh, sl, tx) ++ lmW (xK X) h n (m, e, m 6 0)) ++ dS (xK X) d i) (List.append_assoc _ _ _).symm ?_
  refine v_gSi (K := fun w => w ++ dS (xK X) d i) C (Cxt.r _ Cxt.id) (c_L_isLike hl ⟨s, (sT, mT), rr, hh, sl, tx, _, rfl, hH⟩ hW hI n1) ys_L_isLike ml_L_368 rfl rfl dL_law_412 (by first | omega | exact Nat.le_of_ble_eq_true rfl) (by first | omega | exact Nat.le_of_ble_eq_true rfl) (by first | omega | exact Nat.le_of_ble_eq_true rfl) (Nat.le_of_ble_eq_true rfl) (fun _ _ hu => hu.elim) (fun r u hu => ?_)
  obtain ⟨rfl, u, hG, rfl⟩ := hu
  obtain ⟨s, ⟨sT, mT⟩, rr, hh, sl, tx, L0, rfl, hH⟩ := hG
  rw [List.append_assoc]
  refine v_if_eq C 422 dL_law_415 (by decide) (fun c => absurd c (by decide)) (fun c415 => ?_)
  refine v_iconst (v := nI 1) C dL_law_418 (by decide) ?_
  refine v_goto C 423 dL_law_419 (by decide) ?_
  exact v_lawret C F dL_law_423 (by omega) (by omega)
