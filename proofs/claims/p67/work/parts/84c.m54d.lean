set_option maxHeartbeats 2000000 in
theorem db_4 {X : Cx} {g h e : Nat → Nat} {n cM sq k K0 N0 : Nat} {m : Mg} {p : Int32} {u : Cg} {T : List Nat} {sv N : Nat} {D : Option Nat} {l : Nat} (hl : (xl X).stackTraces = false) (C : Ok SS MM X RL cL_debts 17 17 4200 140000) (F : FinG X (some FieldType.boolean) ri (fun r w => r = nI 1 ∧ ∃ u', GU m u' ∧ w = cS (xK X) g u' ++ lmW (xK X) h n (m, e, p)) (fun _ _ => False) 4200 140000) (hG : GU m u) (hW : WM n cM m) (hI : LI n m) (n1 : ¬ n = 0) (hS : SbOK N T) (hTL : T.length ≤ 13 * k) (hT : T.map nI = forG (dbsS m n) 0 k []) (hK0 : K0 ≤ 10 + 60 * k + 12) (hN0 : N0 ≤ 100 + 8000 * k + 72) (hkn : k < n) (IH : DBH X g h e n m p sq (k + 1)) (hD : D = (forG (nstep m (nI 2)) 0 (k + 1) none)) (hkl : k ≤ l ∧ l < n) (hlen : lenM m n k = l - k + 1) (hst : startM m k = true) (hno : ¬ m 2 k = -1) : V X iW 327 [some (.ref (g 0)), some (.ref (h 0)), some (.int (nI (cntG (startM m) 0 k))), some (.int (nI (cntG (stlB m) 0 (k + 1)))), some (.int (nI (cntG (crdB m n) 0 (k + 1)))), some (.ref sq), some (va_rf (oH h D)), some (.int (nI k)), some (.ref (h (8 + k))), none, none, some (.int (nI l)), none, none, none, none, none] [] ((cS (xK X) g u ++ sbW (xK X) sq sv N T) ++ lmW (xK X) h n (m, e, p)) K0 N0 := by
  obtain ⟨s, ⟨sT, mT⟩, rr, hh, sl, tx, L0, rfl, hH⟩ := hG
  have h14 := hI.1
  have hIM := hI.im
  have hE := hI.ev
  have hset := hI.set
  have hn31 : n < 2 ^ 31 := by omega
  have hn96 : n ≤ 96 := by omega
  have hc31 : cntG (startM m) 0 k < 2 ^ 31 := by have := cntG_le (f := startM m) k 0; omega
  have hkt := kth_at hst hkn
  have hsr := IM_src hIM hkn hno
  have hlp : 0 < T.length ↔ 0 < cntG (startM m) 0 k := by rw [show T.length = (forG (dbsS m n) 0 k []).length by rw [← hT, List.length_map]]; exact dbs_pos k
  have e2 : cntG (startM m) 0 (k + 1) = cntG (startM m) 0 k + 1 := by rw [cnt_e, hst]; rfl
  refine v_aload_n C dL_debts_327 rfl ?_
  refine v_iload_n C dL_debts_328 rfl ?_
  refine v_iconst (v := nI 0) C dL_debts_329 (by decide) ?_
  refine v_kVi (K := fun w => (w ++ sbW (xK X) sq sv N (T)) ++ lmW (xK X) h n (m, e, p)) C (Cxt.r _ (Cxt.r _ Cxt.id)) (c_X5_debt hl (c := cM) hW) ym_X5_debt ml_L_43 fix_cS cS_0 rfl rfl rfl dL_debts_330 (by first | omega | exact Nat.le_of_ble_eq_true rfl) (by first | omega | exact Nat.le_of_ble_eq_true rfl) (by first | omega | exact Nat.le_of_ble_eq_true rfl) (Nat.le_of_ble_eq_true rfl) (fun _ _ hu => (no3 (cd_db n1 hc31 hkt (by decide)) hu.1).elim) (fun r u hu => ?_)
  obtain ⟨⟨-, rfl⟩, s, ⟨sT, mT⟩, rfl⟩ := hu
  rw [db_v (w := 0) hc31 hkt (by decide), db_w0]
  refine v_iload C dL_debts_333 rfl ?_
  refine v_icmp_ne C 385 dL_debts_335 (by decide) (fun c335 => ?_) (fun c335 => ?_)
  · exact absurd rfl c335
  · refine v_aload_n C dL_debts_338 rfl ?_
    refine v_iload_n C dL_debts_339 rfl ?_
    refine v_iconst (v := nI 1) C dL_debts_340 (by decide) ?_
    refine v_kVi (K := fun w => (w ++ sbW (xK X) sq sv N (T)) ++ lmW (xK X) h n (m, e, p)) C (Cxt.r _ (Cxt.r _ Cxt.id)) (c_X5_debt hl (c := cM) hW) ym_X5_debt ml_L_43 fix_cS cS_0 rfl rfl rfl dL_debts_341 (by first | omega | exact Nat.le_of_ble_eq_true rfl) (by first | omega | exact Nat.le_of_ble_eq_true rfl) (by first | omega | exact Nat.le_of_ble_eq_true rfl) (Nat.le_of_ble_eq_true rfl) (fun _ _ hu => (no3 (cd_db n1 hc31 hkt (by decide)) hu.1).elim) (fun r u hu => ?_)
    obtain ⟨⟨-, rfl⟩, s, ⟨sT, mT⟩, rfl⟩ := hu
    rw [db_v (w := 1) hc31 hkt (by decide), db_w1, hsr.2]
    refine v_aload C dL_debts_344 rfl ?_
    refine v_gFN (K := fun w => (cS (xK X) g ((s, m), (sT, mT), rr, hh, sl, tx) ++ sbW (xK X) sq sv N (T)) ++ w) C (Cxt.l _ Cxt.id) (v := va_rf (srcV h m k)) (5 + k) fln_L_190 (plc_at hkn) rfl dL_debts_346 ?_
    rw [srcV_t hno]
    refine v_gFN (K := fun w => (cS (xK X) g ((s, m), (sT, mT), rr, hh, sl, tx) ++ sbW (xK X) sq sv N (T)) ++ w) C (Cxt.l _ Cxt.id) (v := .int (nI (src m k))) (5 + (src m k)) fln_L_175 (plc_at hsr.1) rfl dL_debts_349 ?_
    refine v_icmp_ne C 385 dL_debts_352 (by decide) (fun c352 => ?_) (fun c352 => ?_)
    · exact absurd rfl c352
    · refine v_aload_n C dL_debts_355 rfl ?_
      refine v_iload_n C dL_debts_356 rfl ?_
      refine v_iconst (v := nI 2) C dL_debts_357 (by decide) ?_
      refine v_kVi (K := fun w => (w ++ sbW (xK X) sq sv N (T)) ++ lmW (xK X) h n (m, e, p)) C (Cxt.r _ (Cxt.r _ Cxt.id)) (c_X5_debt hl (c := cM) hW) ym_X5_debt ml_L_43 fix_cS cS_0 rfl rfl rfl dL_debts_358 (by first | omega | exact Nat.le_of_ble_eq_true rfl) (by first | omega | exact Nat.le_of_ble_eq_true rfl) (by first | omega | exact Nat.le_of_ble_eq_true rfl) (Nat.le_of_ble_eq_true rfl) (fun _ _ hu => (no3 (cd_db n1 hc31 hkt (by decide)) hu.1).elim) (fun r u hu => ?_)
      obtain ⟨⟨-, rfl⟩, s, ⟨sT, mT⟩, rfl⟩ := hu
      rw [db_v (w := 2) hc31 hkt (by decide), db_w2, hlen]
      refine v_iload C dL_debts_361 rfl ?_
      refine v_iload C dL_debts_363 rfl ?_
      first | refine v_isubN C dL_debts_365 (by omega) ?_ | refine v_isub C dL_debts_365 ?_
      refine v_iconst (v := nI 1) C dL_debts_366 (by decide) ?_
      first | refine v_iaddN C dL_debts_367 ?_ | refine v_iadd C dL_debts_367 ?_
      refine v_icmp_ne C 385 dL_debts_368 (by decide) (fun c368 => ?_) (fun c368 => ?_)
      · exact absurd rfl c368
      · refine v_aload_n C dL_debts_371 rfl ?_
        refine v_iload_n C dL_debts_372 rfl ?_
        refine v_iconst (v := nI 3) C dL_debts_373 (by decide) ?_
        refine v_kVi (K := fun w => (w ++ sbW (xK X) sq sv N (T)) ++ lmW (xK X) h n (m, e, p)) C (Cxt.r _ (Cxt.r _ Cxt.id)) (c_X5_debt hl (c := cM) hW) ym_X5_debt ml_L_43 fix_cS cS_0 rfl rfl rfl dL_debts_374 (by first | omega | exact Nat.le_of_ble_eq_true rfl) (by first | omega | exact Nat.le_of_ble_eq_true rfl) (by first | omega | exact Nat.le_of_ble_eq_true rfl) (Nat.le_of_ble_eq_true rfl) (fun _ _ hu => (no3 (cd_db n1 hc31 hkt (by decide)) hu.1).elim) (fun r u hu => ?_)
        obtain ⟨⟨-, rfl⟩, s, ⟨sT, mT⟩, rfl⟩ := hu
        rw [db_v (w := 3) hc31 hkt (by decide), db_w3]
        refine v_aload C dL_debts_377 rfl ?_
        refine v_gFN (K := fun w => (cS (xK X) g ((s, m), (sT, mT), rr, hh, sl, tx) ++ sbW (xK X) sq sv N (T)) ++ w) C (Cxt.l _ Cxt.id) (v := .int (m 3 k)) (5 + k) fln_L_196 (plc_at hkn) rfl dL_debts_379 ?_
        refine v_icmp_eq C 387 dL_debts_382 (by decide) (fun c382 => ?_) (fun c382 => ?_)
        · refine v_iload_n C dL_debts_387 rfl ?_
          refine v_if_le C 399 dL_debts_388 (by decide) (fun c388 => ?_) (fun c388 => ?_)
          · rw [nI_toInt hc31] at c388
            have hU : T = if 0 < T.length then T ++ [44] else T := (if_neg (by omega)).symm
            refine v_aload C dL_debts_399 rfl ?_
            refine v_iload C dL_debts_401 rfl ?_
            refine v_gVr (K := fun w => (cS (xK X) g ((s, m), (sT, mT), rr, hh, sl, tx) ++ w) ++ lmW (xK X) h n (m, e, p)) C (Cxt.r _ (Cxt.l _ Cxt.id)) 0 (c_J4_append_bf812 hl (x := k) (by omega) hS (by have := dig_le k; have := dig_le (l - k + 1); have := dig_le (src m k); (try simp only [List.length_append, List.length_cons, List.length_nil, digs_len]); omega)) ym_J4_append_bf812 ml_L_278 rfl rfl rfl rfl dL_debts_403 (by first | omega | exact Nat.le_of_ble_eq_true rfl) (by first | omega | exact Nat.le_of_ble_eq_true rfl) (by first | omega | exact Nat.le_of_ble_eq_true rfl) (Nat.le_of_ble_eq_true rfl) (fun _ _ hu => hu.elim) (fun r u hu => ?_)
            obtain ⟨e9, sv, N, hS, rfl⟩ := hu
            rw [e9]
            refine v_bipush (v := nI 120) C dL_debts_406 (by decide) ?_
            refine v_gVr (K := fun w => (cS (xK X) g ((s, m), (sT, mT), rr, hh, sl, tx) ++ w) ++ lmW (xK X) h n (m, e, p)) C (Cxt.r _ (Cxt.l _ Cxt.id)) 0 (c_J4_append_cf468 hl (c := 120) (by decide) hS (by have := dig_le k; have := dig_le (l - k + 1); have := dig_le (src m k); (try simp only [List.length_append, List.length_cons, List.length_nil, digs_len]); omega)) ym_J4_append_cf468 ml_L_275 rfl rfl rfl rfl dL_debts_408 (by first | omega | exact Nat.le_of_ble_eq_true rfl) (by first | omega | exact Nat.le_of_ble_eq_true rfl) (by first | omega | exact Nat.le_of_ble_eq_true rfl) (Nat.le_of_ble_eq_true rfl) (fun _ _ hu => hu.elim) (fun r u hu => ?_)
            obtain ⟨e9, sv, N, hS, rfl⟩ := hu
            rw [e9]
            refine v_iload C dL_debts_411 rfl ?_
            refine v_iload C dL_debts_413 rfl ?_
            first | refine v_isubN C dL_debts_415 (by omega) ?_ | refine v_isub C dL_debts_415 ?_
            refine v_iconst (v := nI 1) C dL_debts_416 (by decide) ?_
            first | refine v_iaddN C dL_debts_417 ?_ | refine v_iadd C dL_debts_417 ?_
            refine v_gVr (K := fun w => (cS (xK X) g ((s, m), (sT, mT), rr, hh, sl, tx) ++ w) ++ lmW (xK X) h n (m, e, p)) C (Cxt.r _ (Cxt.l _ Cxt.id)) 0 (c_J4_append_bf812 hl (x := (l - k + 1)) (by omega) hS (by have := dig_le k; have := dig_le (l - k + 1); have := dig_le (src m k); (try simp only [List.length_append, List.length_cons, List.length_nil, digs_len]); omega)) ym_J4_append_bf812 ml_L_278 rfl rfl rfl rfl dL_debts_418 (by first | omega | exact Nat.le_of_ble_eq_true rfl) (by first | omega | exact Nat.le_of_ble_eq_true rfl) (by first | omega | exact Nat.le_of_ble_eq_true rfl) (Nat.le_of_ble_eq_true rfl) (fun _ _ hu => hu.elim) (fun r u hu => ?_)
            obtain ⟨e9, sv, N, hS, rfl⟩ := hu
            rw [e9]
            refine v_bipush (v := nI 60) C dL_debts_421 (by decide) ?_
            refine v_gVr (K := fun w => (cS (xK X) g ((s, m), (sT, mT), rr, hh, sl, tx) ++ w) ++ lmW (xK X) h n (m, e, p)) C (Cxt.r _ (Cxt.l _ Cxt.id)) 0 (c_J4_append_cf468 hl (c := 60) (by decide) hS (by have := dig_le k; have := dig_le (l - k + 1); have := dig_le (src m k); (try simp only [List.length_append, List.length_cons, List.length_nil, digs_len]); omega)) ym_J4_append_cf468 ml_L_275 rfl rfl rfl rfl dL_debts_423 (by first | omega | exact Nat.le_of_ble_eq_true rfl) (by first | omega | exact Nat.le_of_ble_eq_true rfl) (by first | omega | exact Nat.le_of_ble_eq_true rfl) (Nat.le_of_ble_eq_true rfl) (fun _ _ hu => hu.elim) (fun r u hu => ?_)
            obtain ⟨e9, sv, N, hS, rfl⟩ := hu
            rw [e9]
            refine v_aload C dL_debts_426 rfl ?_
            refine v_gFN (K := fun w => (cS (xK X) g ((s, m), (sT, mT), rr, hh, sl, tx) ++ sbW (xK X) sq sv N ((((T ++ digs k) ++ [120]) ++ digs (l - k + 1)) ++ [60])) ++ w) C (Cxt.l _ Cxt.id) (v := va_rf (srcV h m k)) (5 + k) fln_L_190 (plc_at hkn) rfl dL_debts_428 ?_
            rw [srcV_t hno]
            refine v_gFN (K := fun w => (cS (xK X) g ((s, m), (sT, mT), rr, hh, sl, tx) ++ sbW (xK X) sq sv N ((((T ++ digs k) ++ [120]) ++ digs (l - k + 1)) ++ [60])) ++ w) C (Cxt.l _ Cxt.id) (v := .int (nI (src m k))) (5 + (src m k)) fln_L_175 (plc_at hsr.1) rfl dL_debts_431 ?_
            refine v_gVr (K := fun w => (cS (xK X) g ((s, m), (sT, mT), rr, hh, sl, tx) ++ w) ++ lmW (xK X) h n (m, e, p)) C (Cxt.r _ (Cxt.l _ Cxt.id)) 0 (c_J4_append_bf812 hl (x := (src m k)) (by omega) hS (by have := dig_le k; have := dig_le (l - k + 1); have := dig_le (src m k); (try simp only [List.length_append, List.length_cons, List.length_nil, digs_len]); omega)) ym_J4_append_bf812 ml_L_278 rfl rfl rfl rfl dL_debts_434 (by first | omega | exact Nat.le_of_ble_eq_true rfl) (by first | omega | exact Nat.le_of_ble_eq_true rfl) (by first | omega | exact Nat.le_of_ble_eq_true rfl) (Nat.le_of_ble_eq_true rfl) (fun _ _ hu => hu.elim) (fun r u hu => ?_)
            obtain ⟨e9, sv, N, hS, rfl⟩ := hu
            rw [e9]
            refine v_pop C dL_debts_437 rfl ?_
            first | refine v_iinc1 C (lo2 := [some _, some _, some _, some _, some _, some _, some _, some _, some _, none, none, some _, none, none, none, none, none]) dL_debts_438 rfl rfl rfl ?_ | refine v_iinc C (lo2 := [some _, some _, some _, some _, some _, some _, some _, some _, some _, none, none, some _, none, none, none, none, none]) dL_debts_438 rfl rfl rfl rfl ?_
            first | refine v_iinc1 C (lo2 := [some _, some _, some _, some _, some _, some _, some _, some _, some _, none, none, some _, none, none, none, none, none]) dL_debts_441 rfl rfl (by cases (oH h D) <;> rfl) ?_ | refine v_iinc C (lo2 := [some _, some _, some _, some _, some _, some _, some _, some _, some _, none, none, some _, none, none, none, none, none]) dL_debts_441 rfl rfl rfl (by cases (oH h D) <;> rfl) ?_
            refine v_goto C 22 dL_debts_444 (by decide) ?_
            rw [← e2]
            refine V.sub (lo2 := [some _, some _, some _, some _, some _, some _, some _, some _, none, none, none, none, none, none, none, none, none]) ⟨rfl, rfl, rfl, rfl, rfl, rfl, rfl, rfl, trivial⟩ ?_
            have hT2 := map_dbT (n := n) hT hU hlen rfl (show k < 1000 by omega) (show l - k + 1 < 1000 by omega) (show src m k < 1000 by omega)
            rw [hD]
            exact IH _ (((((T ++ digs k) ++ [120]) ++ digs (l - k + 1)) ++ [60]) ++ digs (src m k)) sv N _ _ ⟨s, (sT, mT), rr, hh, sl, tx, _, rfl, hH⟩ hS (by have := dig_le k; have := dig_le (l - k + 1); have := dig_le (src m k); (try simp only [List.length_append, List.length_cons, List.length_nil, digs_len]); omega) (by rw [for_e, dbs_t hst]; exact hT2) (by omega) (by omega)
          · rw [nI_toInt hc31] at c388
            have hU : T ++ [44] = if 0 < T.length then T ++ [44] else T := (if_pos (by omega)).symm
            refine v_aload C dL_debts_391 rfl ?_
            refine v_bipush (v := nI 44) C dL_debts_393 (by decide) ?_
            refine v_gVr (K := fun w => (cS (xK X) g ((s, m), (sT, mT), rr, hh, sl, tx) ++ w) ++ lmW (xK X) h n (m, e, p)) C (Cxt.r _ (Cxt.l _ Cxt.id)) 0 (c_J4_append_cf468 hl (c := 44) (by decide) hS (by omega)) ym_J4_append_cf468 ml_L_275 rfl rfl rfl rfl dL_debts_395 (by first | omega | exact Nat.le_of_ble_eq_true rfl) (by first | omega | exact Nat.le_of_ble_eq_true rfl) (by first | omega | exact Nat.le_of_ble_eq_true rfl) (Nat.le_of_ble_eq_true rfl) (fun _ _ hu => hu.elim) (fun r u hu => ?_)
            obtain ⟨e9, sv, N, hS, rfl⟩ := hu
            rw [e9]
            refine v_pop C dL_debts_398 rfl ?_
            refine v_aload C dL_debts_399 rfl ?_
            refine v_iload C dL_debts_401 rfl ?_
            refine v_gVr (K := fun w => (cS (xK X) g ((s, m), (sT, mT), rr, hh, sl, tx) ++ w) ++ lmW (xK X) h n (m, e, p)) C (Cxt.r _ (Cxt.l _ Cxt.id)) 0 (c_J4_append_bf812 hl (x := k) (by omega) hS (by have := dig_le k; have := dig_le (l - k + 1); have := dig_le (src m k); (try simp only [List.length_append, List.length_cons, List.length_nil, digs_len]); omega)) ym_J4_append_bf812 ml_L_278 rfl rfl rfl rfl dL_debts_403 (by first | omega | exact Nat.le_of_ble_eq_true rfl) (by first | omega | exact Nat.le_of_ble_eq_true rfl) (by first | omega | exact Nat.le_of_ble_eq_true rfl) (Nat.le_of_ble_eq_true rfl) (fun _ _ hu => hu.elim) (fun r u hu => ?_)
            obtain ⟨e9, sv, N, hS, rfl⟩ := hu
            rw [e9]
            refine v_bipush (v := nI 120) C dL_debts_406 (by decide) ?_
            refine v_gVr (K := fun w => (cS (xK X) g ((s, m), (sT, mT), rr, hh, sl, tx) ++ w) ++ lmW (xK X) h n (m, e, p)) C (Cxt.r _ (Cxt.l _ Cxt.id)) 0 (c_J4_append_cf468 hl (c := 120) (by decide) hS (by have := dig_le k; have := dig_le (l - k + 1); have := dig_le (src m k); (try simp only [List.length_append, List.length_cons, List.length_nil, digs_len]); omega)) ym_J4_append_cf468 ml_L_275 rfl rfl rfl rfl dL_debts_408 (by first | omega | exact Nat.le_of_ble_eq_true rfl) (by first | omega | exact Nat.le_of_ble_eq_true rfl) (by first | omega | exact Nat.le_of_ble_eq_true rfl) (Nat.le_of_ble_eq_true rfl) (fun _ _ hu => hu.elim) (fun r u hu => ?_)
            obtain ⟨e9, sv, N, hS, rfl⟩ := hu
            rw [e9]
            refine v_iload C dL_debts_411 rfl ?_
            refine v_iload C dL_debts_413 rfl ?_
            first | refine v_isubN C dL_debts_415 (by omega) ?_ | refine v_isub C dL_debts_415 ?_
            refine v_iconst (v := nI 1) C dL_debts_416 (by decide) ?_
            first | refine v_iaddN C dL_debts_417 ?_ | refine v_iadd C dL_debts_417 ?_
            refine v_gVr (K := fun w => (cS (xK X) g ((s, m), (sT, mT), rr, hh, sl, tx) ++ w) ++ lmW (xK X) h n (m, e, p)) C (Cxt.r _ (Cxt.l _ Cxt.id)) 0 (c_J4_append_bf812 hl (x := (l - k + 1)) (by omega) hS (by have := dig_le k; have := dig_le (l - k + 1); have := dig_le (src m k); (try simp only [List.length_append, List.length_cons, List.length_nil, digs_len]); omega)) ym_J4_append_bf812 ml_L_278 rfl rfl rfl rfl dL_debts_418 (by first | omega | exact Nat.le_of_ble_eq_true rfl) (by first | omega | exact Nat.le_of_ble_eq_true rfl) (by first | omega | exact Nat.le_of_ble_eq_true rfl) (Nat.le_of_ble_eq_true rfl) (fun _ _ hu => hu.elim) (fun r u hu => ?_)
            obtain ⟨e9, sv, N, hS, rfl⟩ := hu
            rw [e9]
            refine v_bipush (v := nI 60) C dL_debts_421 (by decide) ?_
            refine v_gVr (K := fun w => (cS (xK X) g ((s, m), (sT, mT), rr, hh, sl, tx) ++ w) ++ lmW (xK X) h n (m, e, p)) C (Cxt.r _ (Cxt.l _ Cxt.id)) 0 (c_J4_append_cf468 hl (c := 60) (by decide) hS (by have := dig_le k; have := dig_le (l - k + 1); have := dig_le (src m k); (try simp only [List.length_append, List.length_cons, List.length_nil, digs_len]); omega)) ym_J4_append_cf468 ml_L_275 rfl rfl rfl rfl dL_debts_423 (by first | omega | exact Nat.le_of_ble_eq_true rfl) (by first | omega | exact Nat.le_of_ble_eq_true rfl) (by first | omega | exact Nat.le_of_ble_eq_true rfl) (Nat.le_of_ble_eq_true rfl) (fun _ _ hu => hu.elim) (fun r u hu => ?_)
            obtain ⟨e9, sv, N, hS, rfl⟩ := hu
            rw [e9]
            refine v_aload C dL_debts_426 rfl ?_
            refine v_gFN (K := fun w => (cS (xK X) g ((s, m), (sT, mT), rr, hh, sl, tx) ++ sbW (xK X) sq sv N (((((T ++ [44]) ++ digs k) ++ [120]) ++ digs (l - k + 1)) ++ [60])) ++ w) C (Cxt.l _ Cxt.id) (v := va_rf (srcV h m k)) (5 + k) fln_L_190 (plc_at hkn) rfl dL_debts_428 ?_
            rw [srcV_t hno]
            refine v_gFN (K := fun w => (cS (xK X) g ((s, m), (sT, mT), rr, hh, sl, tx) ++ sbW (xK X) sq sv N (((((T ++ [44]) ++ digs k) ++ [120]) ++ digs (l - k + 1)) ++ [60])) ++ w) C (Cxt.l _ Cxt.id) (v := .int (nI (src m k))) (5 + (src m k)) fln_L_175 (plc_at hsr.1) rfl dL_debts_431 ?_
            refine v_gVr (K := fun w => (cS (xK X) g ((s, m), (sT, mT), rr, hh, sl, tx) ++ w) ++ lmW (xK X) h n (m, e, p)) C (Cxt.r _ (Cxt.l _ Cxt.id)) 0 (c_J4_append_bf812 hl (x := (src m k)) (by omega) hS (by have := dig_le k; have := dig_le (l - k + 1); have := dig_le (src m k); (try simp only [List.length_append, List.length_cons, List.length_nil, digs_len]); omega)) ym_J4_append_bf812 ml_L_278 rfl rfl rfl rfl dL_debts_434 (by first | omega | exact Nat.le_of_ble_eq_true rfl) (by first | omega | exact Nat.le_of_ble_eq_true rfl) (by first | omega | exact Nat.le_of_ble_eq_true rfl) (Nat.le_of_ble_eq_true rfl) (fun _ _ hu => hu.elim) (fun r u hu => ?_)
            obtain ⟨e9, sv, N, hS, rfl⟩ := hu
            rw [e9]
            refine v_pop C dL_debts_437 rfl ?_
            first | refine v_iinc1 C (lo2 := [some _, some _, some _, some _, some _, some _, some _, some _, some _, none, none, some _, none, none, none, none, none]) dL_debts_438 rfl rfl rfl ?_ | refine v_iinc C (lo2 := [some _, some _, some _, some _, some _, some _, some _, some _, some _, none, none, some _, none, none, none, none, none]) dL_debts_438 rfl rfl rfl rfl ?_
            first | refine v_iinc1 C (lo2 := [some _, some _, some _, some _, some _, some _, some _, some _, some _, none, none, some _, none, none, none, none, none]) dL_debts_441 rfl rfl (by cases (oH h D) <;> rfl) ?_ | refine v_iinc C (lo2 := [some _, some _, some _, some _, some _, some _, some _, some _, some _, none, none, some _, none, none, none, none, none]) dL_debts_441 rfl rfl rfl (by cases (oH h D) <;> rfl) ?_
            refine v_goto C 22 dL_debts_444 (by decide) ?_
            rw [← e2]
            refine V.sub (lo2 := [some _, some _, some _, some _, some _, some _, some _, some _, none, none, none, none, none, none, none, none, none]) ⟨rfl, rfl, rfl, rfl, rfl, rfl, rfl, rfl, trivial⟩ ?_
            have hT2 := map_dbT (n := n) hT hU hlen rfl (show k < 1000 by omega) (show l - k + 1 < 1000 by omega) (show src m k < 1000 by omega)
            rw [hD]
            exact IH _ ((((((T ++ [44]) ++ digs k) ++ [120]) ++ digs (l - k + 1)) ++ [60]) ++ digs (src m k)) sv N _ _ ⟨s, (sT, mT), rr, hh, sl, tx, _, rfl, hH⟩ hS (by have := dig_le k; have := dig_le (l - k + 1); have := dig_le (src m k); (try simp only [List.length_append, List.length_cons, List.length_nil, digs_len]); omega) (by rw [for_e, dbs_t hst]; exact hT2) (by omega) (by omega)
        · exact absurd rfl c382
