set_option maxHeartbeats 2000000 in
theorem vl_A2 {X : Cx} {g h e : Nat → Nat} {n cM : Nat} {m : Mg} {u : Cg} {b i a c Q K0 N0 : Nat} {k : Nat} {w : Option Nat} (hl : (xl X).stackTraces = false) (C : Ok SS MM X RL cL_values 25 17 5000 70000) (F : FinG X (some FieldType.boolean) ri (fun r w => r = nI 1 ∧ ∃ u' i', GU m u' ∧ i' ≤ i + 10 ∧ w = cS (xK X) g u' ++ (lmW (xK X) h n (m, e, m 6 0) ++ dS (xK X) b i')) (fun _ _ => False) 5000 70000) (hG : GU m u) (hW : WM n cM m) (hI : LI n m) (n1 : ¬ n = 0) (hac : a ≤ c ∧ c < n) (hQ : Q < n) (hK0 : K0 ≤ 20) (hN0 : N0 ≤ 120) (hw : (w = none → hbM m c Q = -1) ∧ ∀ x, w = some x → hbM m c Q = nI k) : V X iW 341 [some (.ref (g 0)), some (.ref (h 0)), none, some (.int (nI n)), some (.int (nI a)), some (.int (nI c)), none, none, some (.int (nI Q)), none, none, none, some (.int (nI (cntG (owb m) a (c + 1 - a)))), some (.int (oN (fstG (owb m) a (n - a)))), some (.int (-1)), some (.int (nI k)), some (.int (nI 0)), some (va_rf w), none, none, none, none, none, none, none] [] (cS (xK X) g u ++ (lmW (xK X) h n (m, e, m 6 0) ++ dS (xK X) b (i + 1 + 1 + 1 + 1))) K0 N0 := by
  obtain ⟨s, ⟨sT, mT⟩, rr, hh, sl, tx, L0, rfl, hH⟩ := hG
  have h14 := hI.1
  have hIM := hI.im
  have hE := hI.ev
  have hset := hI.set
  have hn31 : n < 2 ^ 31 := by omega
  have hn96 : n ≤ 96 := by omega
  refine v_aload_n C dL_values_341 rfl ?_
  refine v_gFN (K := fun w => cS (xK X) g ((s, m), (sT, mT), rr, hh, sl, tx) ++ (w ++ dS (xK X) b (i + 1 + 1 + 1 + 1))) C (Cxt.l _ (Cxt.r _ Cxt.id)) (v := .ref (h 1)) 0 fln_L_154 lm_0 rfl dL_values_342 ?_
  refine v_astore C (lo2 := [some _, some _, none, some _, some _, some _, none, none, some _, none, none, none, some _, some _, some _, some _, some _, some _, some _, none, none, none, none, none, none]) dL_values_345 rfl (Nat.le_of_ble_eq_true rfl) (by cases w <;> rfl) ?_
  refine v_aload C dL_values_347 rfl ?_
  refine v_lenA (K := fun w => cS (xK X) g ((s, m), (sT, mT), rr, hh, sl, tx) ++ (w ++ dS (xK X) b (i + 1 + 1 + 1 + 1))) C (Cxt.l _ (Cxt.r _ Cxt.id)) (N := n) 3 1 rfl lm_1 rfl dL_values_349 ?_
  refine v_istore C (lo2 := [some _, some _, none, some _, some _, some _, none, none, some _, none, none, none, some _, some _, some _, some _, some _, some _, some _, some _, none, none, none, none, none]) dL_values_350 rfl (Nat.le_of_ble_eq_true rfl) rfl ?_
  refine v_iconst (v := nI 0) C dL_values_352 (by decide) ?_
  refine v_istore C (lo2 := [some _, some _, none, some _, some _, some _, none, none, some _, none, none, none, some _, some _, some _, some _, some _, some _, some _, some _, some _, none, none, none, none]) dL_values_353 rfl (Nat.le_of_ble_eq_true rfl) rfl ?_
  have L355 : ∀ (t : Nat × Nat × Option Nat), (fun t => t.1 ≤ n ∧ forG (nstep m (nI 0)) t.1 (n - t.1) t.2.2 = nextM m n (nI 0) ∧ (∀ q, t.2.2 = some q → q < n ∧ owb m q = true) ∧ t.2.1 + cntG (crs m a c) t.1 (n - t.1) = cntG (crs m a c) 0 n ∧ t.2.1 ≤ t.1) t → (fun t : Nat × Nat × Option Nat => V X iW 355 [some (.ref (g 0)), some (.ref (h 0)), none, some (.int (nI n)), some (.int (nI a)), some (.int (nI c)), none, none, some (.int (nI Q)), none, none, none, some (.int (nI (cntG (owb m) a (c + 1 - a)))), some (.int (oN (fstG (owb m) a (n - a)))), some (.int (oV t.2.2 (-1) (fun q => m 3 q))), some (.int (nI k)), some (.int (nI t.2.1)), some (va_rf w), some (.ref (h 1)), some (.int (nI n)), some (.int (nI t.1)), none, none, none, none] [] (cS (xK X) g ((s, m), (sT, mT), rr, hh, sl, tx) ++ (lmW (xK X) h n (m, e, m 6 0) ++ dS (xK X) b (i + 1 + 1 + 1 + 1))) K0 N0) t := by
    refine v_ind (fun t : Nat × Nat × Option Nat => n - t.1) ?_
    rintro ⟨j, f, o⟩ ih355 hI355
    try dsimp only at hI355 ⊢
    obtain ⟨g1, g2, g3, g4, g5⟩ := hI355
    refine v_iload C dL_values_355 rfl ?_
    refine v_iload C dL_values_357 rfl ?_
    first | refine v_icmp_geN C 467 dL_values_359 (by decide) (by omega) (by omega) (fun c359 => ?_) (fun c359 => ?_) | refine v_icmp_ge C 467 dL_values_359 (by decide) (fun c359 => ?_) (fun c359 => ?_)
    · have h2 : o = nextM m n (nI 0) := by rw [show n - j = 0 by omega] at g2; exact g2
      have h4 : f = cntG (crs m a c) 0 n := by rw [show n - j = 0 by omega] at g4; exact g4
      rw [h2, h4]
      refine v_aload_n C dL_values_467 rfl ?_
      refine v_iload C dL_values_468 rfl ?_
      refine v_iload C dL_values_470 rfl ?_
      refine v_kVi (K := fun w => w ++ (lmW (xK X) h n (m, e, m 6 0) ++ dS (xK X) b (i + 1 + 1 + 1 + 1))) C (Cxt.r _ Cxt.id) (c_X5_owedIn hl (c := cM) hW) ym_X5_owedIn ml_L_317 fix_cS cS_0 rfl rfl rfl dL_values_472 (by first | omega | exact Nat.le_of_ble_eq_true rfl) (by first | omega | exact Nat.le_of_ble_eq_true rfl) (by first | omega | exact Nat.le_of_ble_eq_true rfl) (Nat.le_of_ble_eq_true rfl) (fun _ _ hu => (no3 (cd_r n1 hac.1 hac.2 hn31) hu.1).elim) (fun r u hu => ?_)
      obtain ⟨⟨-, rfl⟩, s, ⟨sT, mT⟩, rfl⟩ := hu
      rw [tN_nI (show a < 2 ^ 31 by omega), tN_nI (show c < 2 ^ 31 by omega)]
      refine v_iload C dL_values_475 rfl ?_
      refine v_icmp_ne C 522 dL_values_477 (by decide) (fun c477 => ?_) (fun c477 => ?_)
      · exact absurd rfl c477
      · refine v_aload_n C dL_values_480 rfl ?_
        refine v_iload C dL_values_481 rfl ?_
        refine v_kVi (K := fun w => w ++ (lmW (xK X) h n (m, e, m 6 0) ++ dS (xK X) b (i + 1 + 1 + 1 + 1))) C (Cxt.r _ Cxt.id) (c_X5_firstOwed hl (c := cM) hW) ym_X5_firstOwed ml_L_320 fix_cS cS_0 rfl rfl rfl dL_values_483 (by first | omega | exact Nat.le_of_ble_eq_true rfl) (by first | omega | exact Nat.le_of_ble_eq_true rfl) (by first | omega | exact Nat.le_of_ble_eq_true rfl) (Nat.le_of_ble_eq_true rfl) (fun _ _ hu => (no3 (cd_1 n1 (show a < n by omega) hn31) hu.1).elim) (fun r u hu => ?_)
        obtain ⟨⟨-, rfl⟩, s, ⟨sT, mT⟩, rfl⟩ := hu
        rw [tN_nI (show a < 2 ^ 31 by omega)]
        refine v_iload C dL_values_486 rfl ?_
        refine v_icmp_ne C 522 dL_values_488 (by decide) (fun c488 => ?_) (fun c488 => ?_)
        · exact absurd rfl c488
        · refine v_aload_n C dL_values_491 rfl ?_
          refine v_kVi (K := fun w => w ++ (lmW (xK X) h n (m, e, m 6 0) ++ dS (xK X) b (i + 1 + 1 + 1 + 1))) C (Cxt.r _ Cxt.id) (c_X5_oldest hl (c := cM) hW) ym_X5_oldest ml_L_323 fix_cS cS_0 rfl rfl rfl dL_values_492 (by first | omega | exact Nat.le_of_ble_eq_true rfl) (by first | omega | exact Nat.le_of_ble_eq_true rfl) (by first | omega | exact Nat.le_of_ble_eq_true rfl) (Nat.le_of_ble_eq_true rfl) (fun _ _ hu => (noU (cd_0 n1) hu.1).elim) (fun r u hu => ?_)
          obtain ⟨⟨-, rfl⟩, s, ⟨sT, mT⟩, rfl⟩ := hu
          refine v_iload C dL_values_495 rfl ?_
          refine v_icmp_ne C 522 dL_values_497 (by decide) (fun c497 => ?_) (fun c497 => ?_)
          · exact absurd rfl c497
          · refine v_aload_n C dL_values_500 rfl ?_
            refine v_iload C dL_values_501 rfl ?_
            refine v_iload C dL_values_503 rfl ?_
            refine v_kVi (K := fun w => w ++ (lmW (xK X) h n (m, e, m 6 0) ++ dS (xK X) b (i + 1 + 1 + 1 + 1))) C (Cxt.r _ Cxt.id) (c_X5_distance hl (c := cM) hW) ym_X5_distance ml_L_133 fix_cS cS_0 rfl rfl rfl dL_values_505 (by first | omega | exact Nat.le_of_ble_eq_true rfl) (by first | omega | exact Nat.le_of_ble_eq_true rfl) (by first | omega | exact Nat.le_of_ble_eq_true rfl) (Nat.le_of_ble_eq_true rfl) (fun _ _ hu => (no3 (cd_d n1 hac.2 hQ hn31) hu.1).elim) (fun r u hu => ?_)
            obtain ⟨⟨-, rfl⟩, s, ⟨sT, mT⟩, rfl⟩ := hu
            rw [tN_nI (show c < 2 ^ 31 by omega), tN_nI (show Q < 2 ^ 31 by omega)]
            refine v_aloadq C (x := w) dL_values_508 rfl ?_
            refine v_ifnonnull C (x := w) 517 dL_values_510 (by decide) (fun a510 c510 => ?_) (fun c510 => ?_)
            · refine v_iload C dL_values_517 rfl ?_
              refine v_icmp_eq C 524 dL_values_519 (by decide) (fun c519 => ?_) (fun c519 => ?_)
              · refine V.sub (lo2 := [some _, some _, none, some _, some _, some _, none, none, some _, none, none, none, none, none, none, none, some _, none, none, none, none, none, none, none, none]) ⟨rfl, rfl, rfl, rfl, rfl, rfl, rfl, trivial⟩ ?_
                exact vl_B hl C F ⟨s, (sT, mT), rr, hh, sl, tx, _, rfl, hH⟩ hW hI n1 hac hQ (by omega) (by omega)
              · exact absurd (hw.2 _ c510) c519
            · refine v_iconst (v := (-1)) C dL_values_513 (by decide) ?_
              refine v_goto C 519 dL_values_514 (by decide) ?_
              refine v_icmp_eq C 524 dL_values_519 (by decide) (fun c519 => ?_) (fun c519 => ?_)
              · refine V.sub (lo2 := [some _, some _, none, some _, some _, some _, none, none, some _, none, none, none, none, none, none, none, some _, none, none, none, none, none, none, none, none]) ⟨rfl, rfl, rfl, rfl, rfl, rfl, rfl, trivial⟩ ?_
                exact vl_B hl C F ⟨s, (sT, mT), rr, hh, sl, tx, _, rfl, hH⟩ hW hI n1 hac hQ (by omega) (by omega)
              · exact absurd (hw.1 c510) c519
    · have hjn : j < n := by omega
      rw [forG_s hjn] at g2
      rw [cntG_s hjn] at g4
      refine v_aload C dL_values_362 rfl ?_
      refine v_iload C dL_values_364 rfl ?_
      refine v_gP (K := fun w => cS (xK X) g ((s, m), (sT, mT), rr, hh, sl, tx) ++ (w ++ dS (xK X) b (i + 1 + 1 + 1 + 1))) C (Cxt.l _ (Cxt.r _ Cxt.id)) (x := (some (h (8 + j)))) 1 lm_1 (by first | decide | omega) j (if_pos (by omega)) ?_ rfl dL_values_366 ?_
      · omega
      refine v_astore C (lo2 := [some _, some _, none, some _, some _, some _, none, none, some _, none, none, none, some _, some _, some _, some _, some _, some _, some _, some _, some _, some _, none, none, none]) dL_values_367 rfl (Nat.le_of_ble_eq_true rfl) rfl ?_
      refine v_aload C dL_values_369 rfl ?_
      refine v_gFN (K := fun w => cS (xK X) g ((s, m), (sT, mT), rr, hh, sl, tx) ++ (w ++ dS (xK X) b (i + 1 + 1 + 1 + 1))) C (Cxt.l _ (Cxt.r _ Cxt.id)) (v := va_rf (srcV h m j)) (5 + j) fln_L_190 (plc_at hjn) rfl dL_values_371 ?_
      refine v_ifnonnull C (x := (srcV h m j)) 380 dL_values_374 (by decide) (fun a374 c374 => ?_) (fun c374 => ?_)
      · have hno := (srcV_yes c374).1
        have ho : owb m j = true := owb_t.mpr hno
        have hsr := IM_src hIM hjn hno
        rw [crs_d ho] at g4
        cases o with
        | none =>
          rw [nst_n ho] at g2
          refine v_iload C dL_values_380 rfl ?_
          refine v_if_ge C 393 dL_values_382 (by decide) (fun c382 => ?_) (fun c382 => ?_)
          · exact absurd (show (0 : Int) ≤ (-1 : Int32).toInt from c382) (by decide)
          · refine v_aload C dL_values_385 rfl ?_
            refine v_gFN (K := fun w => cS (xK X) g ((s, m), (sT, mT), rr, hh, sl, tx) ++ (w ++ dS (xK X) b (i + 1 + 1 + 1 + 1))) C (Cxt.l _ (Cxt.r _ Cxt.id)) (v := .int (m 3 j)) (5 + j) fln_L_196 (plc_at hjn) rfl dL_values_387 ?_
            refine v_goto C 403 dL_values_390 (by decide) ?_
            refine v_istore C (lo2 := [some _, some _, none, some _, some _, some _, none, none, some _, none, none, none, some _, some _, some _, some _, some _, some _, some _, some _, some _, some _, none, none, none]) dL_values_403 rfl (Nat.le_of_ble_eq_true rfl) rfl ?_
            refine v_iload C dL_values_405 rfl ?_
            refine v_aload C dL_values_407 rfl ?_
            refine v_gFN (K := fun w => cS (xK X) g ((s, m), (sT, mT), rr, hh, sl, tx) ++ (w ++ dS (xK X) b (i + 1 + 1 + 1 + 1))) C (Cxt.l _ (Cxt.r _ Cxt.id)) (v := .int (nI j)) (5 + j) fln_L_175 (plc_at hjn) rfl dL_values_409 ?_
            refine v_iload C dL_values_412 rfl ?_
            first | refine v_icmp_ltN C 427 dL_values_414 (by decide) (by omega) (by omega) (fun c414 => ?_) (fun c414 => ?_) | refine v_icmp_lt C 427 dL_values_414 (by decide) (fun c414 => ?_) (fun c414 => ?_)
            · refine v_aload C dL_values_427 rfl ?_
              refine v_gFN (K := fun w => cS (xK X) g ((s, m), (sT, mT), rr, hh, sl, tx) ++ (w ++ dS (xK X) b (i + 1 + 1 + 1 + 1))) C (Cxt.l _ (Cxt.r _ Cxt.id)) (v := va_rf (srcV h m j)) (5 + j) fln_L_190 (plc_at hjn) rfl dL_values_429 ?_
              rw [srcV_t hno]
              refine v_gFN (K := fun w => cS (xK X) g ((s, m), (sT, mT), rr, hh, sl, tx) ++ (w ++ dS (xK X) b (i + 1 + 1 + 1 + 1))) C (Cxt.l _ (Cxt.r _ Cxt.id)) (v := .int (nI (src m j))) (5 + (src m j)) fln_L_175 (plc_at hsr.1) rfl dL_values_432 ?_
              refine v_iload C dL_values_435 rfl ?_
              first | refine v_icmp_ltN C 457 dL_values_437 (by decide) (by omega) (by omega) (fun c437 => ?_) (fun c437 => ?_) | refine v_icmp_lt C 457 dL_values_437 (by decide) (fun c437 => ?_) (fun c437 => ?_)
              · refine v_iconst (v := nI 0) C dL_values_457 (by decide) ?_
                first | refine v_iaddN C dL_values_458 ?_ | refine v_iadd C dL_values_458 ?_
                refine v_istore C (lo2 := [some _, some _, none, some _, some _, some _, none, none, some _, none, none, none, some _, some _, some _, some _, some _, some _, some _, some _, some _, some _, none, none, none]) dL_values_459 rfl (Nat.le_of_ble_eq_true rfl) rfl ?_
                first | refine v_iinc1 C (lo2 := [some _, some _, none, some _, some _, some _, none, none, some _, none, none, none, some _, some _, some _, some _, some _, some _, some _, some _, some _, some _, none, none, none]) dL_values_461 rfl rfl rfl ?_ | refine v_iinc C (lo2 := [some _, some _, none, some _, some _, some _, none, none, some _, none, none, none, some _, some _, some _, some _, some _, some _, some _, some _, some _, some _, none, none, none]) dL_values_461 rfl rfl rfl rfl ?_
                refine v_goto C 355 dL_values_464 (by decide) ?_
                refine V.sub (lo2 := [some _, some _, none, some _, some _, some _, none, none, some _, none, none, none, some _, some _, some _, some _, some _, some _, some _, some _, some _, none, none, none, none]) ⟨rfl, rfl, rfl, rfl, rfl, rfl, rfl, rfl, rfl, rfl, rfl, rfl, rfl, rfl, rfl, trivial⟩ ?_
                rw [decide_eq_false (by omega), if_neg Bool.false_ne_true] at g4
                exact ih355 (j + 1, f + 0, some j) (by show n - (j + 1) < n - j; omega) ⟨by show j + 1 ≤ n; omega, g2, (fun q z => by cases z; exact ⟨hjn, ho⟩), by show f + 0 + cntG (crs m a c) (j + 1) (n - (j + 1)) = cntG (crs m a c) 0 n; omega, by show f + 0 ≤ j + 1; omega⟩
              · refine v_aload C dL_values_440 rfl ?_
                refine v_gFN (K := fun w => cS (xK X) g ((s, m), (sT, mT), rr, hh, sl, tx) ++ (w ++ dS (xK X) b (i + 1 + 1 + 1 + 1))) C (Cxt.l _ (Cxt.r _ Cxt.id)) (v := va_rf (srcV h m j)) (5 + j) fln_L_190 (plc_at hjn) rfl dL_values_442 ?_
                rw [srcV_t hno]
                refine v_gFN (K := fun w => cS (xK X) g ((s, m), (sT, mT), rr, hh, sl, tx) ++ (w ++ dS (xK X) b (i + 1 + 1 + 1 + 1))) C (Cxt.l _ (Cxt.r _ Cxt.id)) (v := .int (nI (src m j))) (5 + (src m j)) fln_L_175 (plc_at hsr.1) rfl dL_values_445 ?_
                refine v_iload C dL_values_448 rfl ?_
                first | refine v_icmp_gtN C 457 dL_values_450 (by decide) (by omega) (by omega) (fun c450 => ?_) (fun c450 => ?_) | refine v_icmp_gt C 457 dL_values_450 (by decide) (fun c450 => ?_) (fun c450 => ?_)
                · refine v_iconst (v := nI 0) C dL_values_457 (by decide) ?_
                  first | refine v_iaddN C dL_values_458 ?_ | refine v_iadd C dL_values_458 ?_
                  refine v_istore C (lo2 := [some _, some _, none, some _, some _, some _, none, none, some _, none, none, none, some _, some _, some _, some _, some _, some _, some _, some _, some _, some _, none, none, none]) dL_values_459 rfl (Nat.le_of_ble_eq_true rfl) rfl ?_
                  first | refine v_iinc1 C (lo2 := [some _, some _, none, some _, some _, some _, none, none, some _, none, none, none, some _, some _, some _, some _, some _, some _, some _, some _, some _, some _, none, none, none]) dL_values_461 rfl rfl rfl ?_ | refine v_iinc C (lo2 := [some _, some _, none, some _, some _, some _, none, none, some _, none, none, none, some _, some _, some _, some _, some _, some _, some _, some _, some _, some _, none, none, none]) dL_values_461 rfl rfl rfl rfl ?_
                  refine v_goto C 355 dL_values_464 (by decide) ?_
                  refine V.sub (lo2 := [some _, some _, none, some _, some _, some _, none, none, some _, none, none, none, some _, some _, some _, some _, some _, some _, some _, some _, some _, none, none, none, none]) ⟨rfl, rfl, rfl, rfl, rfl, rfl, rfl, rfl, rfl, rfl, rfl, rfl, rfl, rfl, rfl, trivial⟩ ?_
                  rw [decide_eq_false (by omega), if_neg Bool.false_ne_true] at g4
                  exact ih355 (j + 1, f + 0, some j) (by show n - (j + 1) < n - j; omega) ⟨by show j + 1 ≤ n; omega, g2, (fun q z => by cases z; exact ⟨hjn, ho⟩), by show f + 0 + cntG (crs m a c) (j + 1) (n - (j + 1)) = cntG (crs m a c) 0 n; omega, by show f + 0 ≤ j + 1; omega⟩
                · refine v_iconst (v := nI 1) C dL_values_453 (by decide) ?_
                  refine v_goto C 458 dL_values_454 (by decide) ?_
                  first | refine v_iaddN C dL_values_458 ?_ | refine v_iadd C dL_values_458 ?_
                  refine v_istore C (lo2 := [some _, some _, none, some _, some _, some _, none, none, some _, none, none, none, some _, some _, some _, some _, some _, some _, some _, some _, some _, some _, none, none, none]) dL_values_459 rfl (Nat.le_of_ble_eq_true rfl) rfl ?_
                  first | refine v_iinc1 C (lo2 := [some _, some _, none, some _, some _, some _, none, none, some _, none, none, none, some _, some _, some _, some _, some _, some _, some _, some _, some _, some _, none, none, none]) dL_values_461 rfl rfl rfl ?_ | refine v_iinc C (lo2 := [some _, some _, none, some _, some _, some _, none, none, some _, none, none, none, some _, some _, some _, some _, some _, some _, some _, some _, some _, some _, none, none, none]) dL_values_461 rfl rfl rfl rfl ?_
                  refine v_goto C 355 dL_values_464 (by decide) ?_
                  refine V.sub (lo2 := [some _, some _, none, some _, some _, some _, none, none, some _, none, none, none, some _, some _, some _, some _, some _, some _, some _, some _, some _, none, none, none, none]) ⟨rfl, rfl, rfl, rfl, rfl, rfl, rfl, rfl, rfl, rfl, rfl, rfl, rfl, rfl, rfl, trivial⟩ ?_
                  rw [decide_eq_true (by omega), if_pos rfl] at g4
                  exact ih355 (j + 1, f + 1, some j) (by show n - (j + 1) < n - j; omega) ⟨by show j + 1 ≤ n; omega, g2, (fun q z => by cases z; exact ⟨hjn, ho⟩), by show f + 1 + cntG (crs m a c) (j + 1) (n - (j + 1)) = cntG (crs m a c) 0 n; omega, by show f + 1 ≤ j + 1; omega⟩
            · refine v_aload C dL_values_417 rfl ?_
              refine v_gFN (K := fun w => cS (xK X) g ((s, m), (sT, mT), rr, hh, sl, tx) ++ (w ++ dS (xK X) b (i + 1 + 1 + 1 + 1))) C (Cxt.l _ (Cxt.r _ Cxt.id)) (v := .int (nI j)) (5 + j) fln_L_175 (plc_at hjn) rfl dL_values_419 ?_
              refine v_iload C dL_values_422 rfl ?_
              first | refine v_icmp_leN C 457 dL_values_424 (by decide) (by omega) (by omega) (fun c424 => ?_) (fun c424 => ?_) | refine v_icmp_le C 457 dL_values_424 (by decide) (fun c424 => ?_) (fun c424 => ?_)
              · refine v_iconst (v := nI 0) C dL_values_457 (by decide) ?_
                first | refine v_iaddN C dL_values_458 ?_ | refine v_iadd C dL_values_458 ?_
                refine v_istore C (lo2 := [some _, some _, none, some _, some _, some _, none, none, some _, none, none, none, some _, some _, some _, some _, some _, some _, some _, some _, some _, some _, none, none, none]) dL_values_459 rfl (Nat.le_of_ble_eq_true rfl) rfl ?_
                first | refine v_iinc1 C (lo2 := [some _, some _, none, some _, some _, some _, none, none, some _, none, none, none, some _, some _, some _, some _, some _, some _, some _, some _, some _, some _, none, none, none]) dL_values_461 rfl rfl rfl ?_ | refine v_iinc C (lo2 := [some _, some _, none, some _, some _, some _, none, none, some _, none, none, none, some _, some _, some _, some _, some _, some _, some _, some _, some _, some _, none, none, none]) dL_values_461 rfl rfl rfl rfl ?_
                refine v_goto C 355 dL_values_464 (by decide) ?_
                refine V.sub (lo2 := [some _, some _, none, some _, some _, some _, none, none, some _, none, none, none, some _, some _, some _, some _, some _, some _, some _, some _, some _, none, none, none, none]) ⟨rfl, rfl, rfl, rfl, rfl, rfl, rfl, rfl, rfl, rfl, rfl, rfl, rfl, rfl, rfl, trivial⟩ ?_
                rw [decide_eq_false (by omega), if_neg Bool.false_ne_true] at g4
                exact ih355 (j + 1, f + 0, some j) (by show n - (j + 1) < n - j; omega) ⟨by show j + 1 ≤ n; omega, g2, (fun q z => by cases z; exact ⟨hjn, ho⟩), by show f + 0 + cntG (crs m a c) (j + 1) (n - (j + 1)) = cntG (crs m a c) 0 n; omega, by show f + 0 ≤ j + 1; omega⟩
              · refine v_aload C dL_values_427 rfl ?_
                refine v_gFN (K := fun w => cS (xK X) g ((s, m), (sT, mT), rr, hh, sl, tx) ++ (w ++ dS (xK X) b (i + 1 + 1 + 1 + 1))) C (Cxt.l _ (Cxt.r _ Cxt.id)) (v := va_rf (srcV h m j)) (5 + j) fln_L_190 (plc_at hjn) rfl dL_values_429 ?_
                rw [srcV_t hno]
                refine v_gFN (K := fun w => cS (xK X) g ((s, m), (sT, mT), rr, hh, sl, tx) ++ (w ++ dS (xK X) b (i + 1 + 1 + 1 + 1))) C (Cxt.l _ (Cxt.r _ Cxt.id)) (v := .int (nI (src m j))) (5 + (src m j)) fln_L_175 (plc_at hsr.1) rfl dL_values_432 ?_
                refine v_iload C dL_values_435 rfl ?_
                first | refine v_icmp_ltN C 457 dL_values_437 (by decide) (by omega) (by omega) (fun c437 => ?_) (fun c437 => ?_) | refine v_icmp_lt C 457 dL_values_437 (by decide) (fun c437 => ?_) (fun c437 => ?_)
                · refine v_iconst (v := nI 0) C dL_values_457 (by decide) ?_
                  first | refine v_iaddN C dL_values_458 ?_ | refine v_iadd C dL_values_458 ?_
                  refine v_istore C (lo2 := [some _, some _, none, some _, some _, some _, none, none, some _, none, none, none, some _, some _, some _, some _, some _, some _, some _, some _, some _, some _, none, none, none]) dL_values_459 rfl (Nat.le_of_ble_eq_true rfl) rfl ?_
                  first | refine v_iinc1 C (lo2 := [some _, some _, none, some _, some _, some _, none, none, some _, none, none, none, some _, some _, some _, some _, some _, some _, some _, some _, some _, some _, none, none, none]) dL_values_461 rfl rfl rfl ?_ | refine v_iinc C (lo2 := [some _, some _, none, some _, some _, some _, none, none, some _, none, none, none, some _, some _, some _, some _, some _, some _, some _, some _, some _, some _, none, none, none]) dL_values_461 rfl rfl rfl rfl ?_
                  refine v_goto C 355 dL_values_464 (by decide) ?_
                  refine V.sub (lo2 := [some _, some _, none, some _, some _, some _, none, none, some _, none, none, none, some _, some _, some _, some _, some _, some _, some _, some _, some _, none, none, none, none]) ⟨rfl, rfl, rfl, rfl, rfl, rfl, rfl, rfl, rfl, rfl, rfl, rfl, rfl, rfl, rfl, trivial⟩ ?_
                  rw [decide_eq_false (by omega), if_neg Bool.false_ne_true] at g4
                  exact ih355 (j + 1, f + 0, some j) (by show n - (j + 1) < n - j; omega) ⟨by show j + 1 ≤ n; omega, g2, (fun q z => by cases z; exact ⟨hjn, ho⟩), by show f + 0 + cntG (crs m a c) (j + 1) (n - (j + 1)) = cntG (crs m a c) 0 n; omega, by show f + 0 ≤ j + 1; omega⟩
                · refine v_aload C dL_values_440 rfl ?_
                  refine v_gFN (K := fun w => cS (xK X) g ((s, m), (sT, mT), rr, hh, sl, tx) ++ (w ++ dS (xK X) b (i + 1 + 1 + 1 + 1))) C (Cxt.l _ (Cxt.r _ Cxt.id)) (v := va_rf (srcV h m j)) (5 + j) fln_L_190 (plc_at hjn) rfl dL_values_442 ?_
                  rw [srcV_t hno]
                  refine v_gFN (K := fun w => cS (xK X) g ((s, m), (sT, mT), rr, hh, sl, tx) ++ (w ++ dS (xK X) b (i + 1 + 1 + 1 + 1))) C (Cxt.l _ (Cxt.r _ Cxt.id)) (v := .int (nI (src m j))) (5 + (src m j)) fln_L_175 (plc_at hsr.1) rfl dL_values_445 ?_
                  refine v_iload C dL_values_448 rfl ?_
                  first | refine v_icmp_gtN C 457 dL_values_450 (by decide) (by omega) (by omega) (fun c450 => ?_) (fun c450 => ?_) | refine v_icmp_gt C 457 dL_values_450 (by decide) (fun c450 => ?_) (fun c450 => ?_)
                  · refine v_iconst (v := nI 0) C dL_values_457 (by decide) ?_
                    first | refine v_iaddN C dL_values_458 ?_ | refine v_iadd C dL_values_458 ?_
                    refine v_istore C (lo2 := [some _, some _, none, some _, some _, some _, none, none, some _, none, none, none, some _, some _, some _, some _, some _, some _, some _, some _, some _, some _, none, none, none]) dL_values_459 rfl (Nat.le_of_ble_eq_true rfl) rfl ?_
                    first | refine v_iinc1 C (lo2 := [some _, some _, none, some _, some _, some _, none, none, some _, none, none, none, some _, some _, some _, some _, some _, some _, some _, some _, some _, some _, none, none, none]) dL_values_461 rfl rfl rfl ?_ | refine v_iinc C (lo2 := [some _, some _, none, some _, some _, some _, none, none, some _, none, none, none, some _, some _, some _, some _, some _, some _, some _, some _, some _, some _, none, none, none]) dL_values_461 rfl rfl rfl rfl ?_
                    refine v_goto C 355 dL_values_464 (by decide) ?_
                    refine V.sub (lo2 := [some _, some _, none, some _, some _, some _, none, none, some _, none, none, none, some _, some _, some _, some _, some _, some _, some _, some _, some _, none, none, none, none]) ⟨rfl, rfl, rfl, rfl, rfl, rfl, rfl, rfl, rfl, rfl, rfl, rfl, rfl, rfl, rfl, trivial⟩ ?_
                    rw [decide_eq_false (by omega), if_neg Bool.false_ne_true] at g4
                    exact ih355 (j + 1, f + 0, some j) (by show n - (j + 1) < n - j; omega) ⟨by show j + 1 ≤ n; omega, g2, (fun q z => by cases z; exact ⟨hjn, ho⟩), by show f + 0 + cntG (crs m a c) (j + 1) (n - (j + 1)) = cntG (crs m a c) 0 n; omega, by show f + 0 ≤ j + 1; omega⟩
                  · refine v_iconst (v := nI 1) C dL_values_453 (by decide) ?_
                    refine v_goto C 458 dL_values_454 (by decide) ?_
                    first | refine v_iaddN C dL_values_458 ?_ | refine v_iadd C dL_values_458 ?_
                    refine v_istore C (lo2 := [some _, some _, none, some _, some _, some _, none, none, some _, none, none, none, some _, some _, some _, some _, some _, some _, some _, some _, some _, some _, none, none, none]) dL_values_459 rfl (Nat.le_of_ble_eq_true rfl) rfl ?_
                    first | refine v_iinc1 C (lo2 := [some _, some _, none, some _, some _, some _, none, none, some _, none, none, none, some _, some _, some _, some _, some _, some _, some _, some _, some _, some _, none, none, none]) dL_values_461 rfl rfl rfl ?_ | refine v_iinc C (lo2 := [some _, some _, none, some _, some _, some _, none, none, some _, none, none, none, some _, some _, some _, some _, some _, some _, some _, some _, some _, some _, none, none, none]) dL_values_461 rfl rfl rfl rfl ?_
                    refine v_goto C 355 dL_values_464 (by decide) ?_
                    refine V.sub (lo2 := [some _, some _, none, some _, some _, some _, none, none, some _, none, none, none, some _, some _, some _, some _, some _, some _, some _, some _, some _, none, none, none, none]) ⟨rfl, rfl, rfl, rfl, rfl, rfl, rfl, rfl, rfl, rfl, rfl, rfl, rfl, rfl, rfl, trivial⟩ ?_
                    rw [decide_eq_true (by omega), if_pos rfl] at g4
                    exact ih355 (j + 1, f + 1, some j) (by show n - (j + 1) < n - j; omega) ⟨by show j + 1 ≤ n; omega, g2, (fun q z => by cases z; exact ⟨hjn, ho⟩), by show f + 1 + cntG (crs m a c) (j + 1) (n - (j + 1)) = cntG (crs m a c) 0 n; omega, by show f + 1 ≤ j + 1; omega⟩
        | some q =>
          obtain ⟨v3, hv3, e3⟩ := hI.pr (g3 q rfl).1 (g3 q rfl).2
          refine v_iload C dL_values_380 rfl ?_
          refine v_if_ge C 393 dL_values_382 (by decide) (fun c382 => ?_) (fun c382 => ?_)
          · refine v_iload C dL_values_393 rfl ?_
            refine v_aload C dL_values_395 rfl ?_
            refine v_gFN (K := fun w => cS (xK X) g ((s, m), (sT, mT), rr, hh, sl, tx) ++ (w ++ dS (xK X) b (i + 1 + 1 + 1 + 1))) C (Cxt.l _ (Cxt.r _ Cxt.id)) (v := .int (m 3 j)) (5 + j) fln_L_196 (plc_at hjn) rfl dL_values_397 ?_
            refine v_mmin (z := (oV (nstep m (nI 0) j (some q)) (-1) (fun q => m 3 q))) C ml_L_240 w_minS w_mI w_minC rfl (Nat.le_of_ble_eq_true rfl) dL_values_400 (by first | omega | exact Nat.le_of_ble_eq_true rfl) (by first | omega | exact Nat.le_of_ble_eq_true rfl) ?_ ?_
            · exact old_min ho
            refine v_istore C (lo2 := [some _, some _, none, some _, some _, some _, none, none, some _, none, none, none, some _, some _, some _, some _, some _, some _, some _, some _, some _, some _, none, none, none]) dL_values_403 rfl (Nat.le_of_ble_eq_true rfl) rfl ?_
            refine v_iload C dL_values_405 rfl ?_
            refine v_aload C dL_values_407 rfl ?_
            refine v_gFN (K := fun w => cS (xK X) g ((s, m), (sT, mT), rr, hh, sl, tx) ++ (w ++ dS (xK X) b (i + 1 + 1 + 1 + 1))) C (Cxt.l _ (Cxt.r _ Cxt.id)) (v := .int (nI j)) (5 + j) fln_L_175 (plc_at hjn) rfl dL_values_409 ?_
            refine v_iload C dL_values_412 rfl ?_
            first | refine v_icmp_ltN C 427 dL_values_414 (by decide) (by omega) (by omega) (fun c414 => ?_) (fun c414 => ?_) | refine v_icmp_lt C 427 dL_values_414 (by decide) (fun c414 => ?_) (fun c414 => ?_)
            · refine v_aload C dL_values_427 rfl ?_
              refine v_gFN (K := fun w => cS (xK X) g ((s, m), (sT, mT), rr, hh, sl, tx) ++ (w ++ dS (xK X) b (i + 1 + 1 + 1 + 1))) C (Cxt.l _ (Cxt.r _ Cxt.id)) (v := va_rf (srcV h m j)) (5 + j) fln_L_190 (plc_at hjn) rfl dL_values_429 ?_
              rw [srcV_t hno]
              refine v_gFN (K := fun w => cS (xK X) g ((s, m), (sT, mT), rr, hh, sl, tx) ++ (w ++ dS (xK X) b (i + 1 + 1 + 1 + 1))) C (Cxt.l _ (Cxt.r _ Cxt.id)) (v := .int (nI (src m j))) (5 + (src m j)) fln_L_175 (plc_at hsr.1) rfl dL_values_432 ?_
              refine v_iload C dL_values_435 rfl ?_
              first | refine v_icmp_ltN C 457 dL_values_437 (by decide) (by omega) (by omega) (fun c437 => ?_) (fun c437 => ?_) | refine v_icmp_lt C 457 dL_values_437 (by decide) (fun c437 => ?_) (fun c437 => ?_)
              · refine v_iconst (v := nI 0) C dL_values_457 (by decide) ?_
                first | refine v_iaddN C dL_values_458 ?_ | refine v_iadd C dL_values_458 ?_
                refine v_istore C (lo2 := [some _, some _, none, some _, some _, some _, none, none, some _, none, none, none, some _, some _, some _, some _, some _, some _, some _, some _, some _, some _, none, none, none]) dL_values_459 rfl (Nat.le_of_ble_eq_true rfl) rfl ?_
                first | refine v_iinc1 C (lo2 := [some _, some _, none, some _, some _, some _, none, none, some _, none, none, none, some _, some _, some _, some _, some _, some _, some _, some _, some _, some _, none, none, none]) dL_values_461 rfl rfl rfl ?_ | refine v_iinc C (lo2 := [some _, some _, none, some _, some _, some _, none, none, some _, none, none, none, some _, some _, some _, some _, some _, some _, some _, some _, some _, some _, none, none, none]) dL_values_461 rfl rfl rfl rfl ?_
                refine v_goto C 355 dL_values_464 (by decide) ?_
                refine V.sub (lo2 := [some _, some _, none, some _, some _, some _, none, none, some _, none, none, none, some _, some _, some _, some _, some _, some _, some _, some _, some _, none, none, none, none]) ⟨rfl, rfl, rfl, rfl, rfl, rfl, rfl, rfl, rfl, rfl, rfl, rfl, rfl, rfl, rfl, trivial⟩ ?_
                rw [decide_eq_false (by omega), if_neg Bool.false_ne_true] at g4
                exact ih355 (j + 1, f + 0, nstep m (nI 0) j (some q)) (by show n - (j + 1) < n - j; omega) ⟨by show j + 1 ≤ n; omega, g2, (fun p z => old_in hjn ho (g3 q rfl) z), by show f + 0 + cntG (crs m a c) (j + 1) (n - (j + 1)) = cntG (crs m a c) 0 n; omega, by show f + 0 ≤ j + 1; omega⟩
              · refine v_aload C dL_values_440 rfl ?_
                refine v_gFN (K := fun w => cS (xK X) g ((s, m), (sT, mT), rr, hh, sl, tx) ++ (w ++ dS (xK X) b (i + 1 + 1 + 1 + 1))) C (Cxt.l _ (Cxt.r _ Cxt.id)) (v := va_rf (srcV h m j)) (5 + j) fln_L_190 (plc_at hjn) rfl dL_values_442 ?_
                rw [srcV_t hno]
                refine v_gFN (K := fun w => cS (xK X) g ((s, m), (sT, mT), rr, hh, sl, tx) ++ (w ++ dS (xK X) b (i + 1 + 1 + 1 + 1))) C (Cxt.l _ (Cxt.r _ Cxt.id)) (v := .int (nI (src m j))) (5 + (src m j)) fln_L_175 (plc_at hsr.1) rfl dL_values_445 ?_
                refine v_iload C dL_values_448 rfl ?_
                first | refine v_icmp_gtN C 457 dL_values_450 (by decide) (by omega) (by omega) (fun c450 => ?_) (fun c450 => ?_) | refine v_icmp_gt C 457 dL_values_450 (by decide) (fun c450 => ?_) (fun c450 => ?_)
                · refine v_iconst (v := nI 0) C dL_values_457 (by decide) ?_
                  first | refine v_iaddN C dL_values_458 ?_ | refine v_iadd C dL_values_458 ?_
                  refine v_istore C (lo2 := [some _, some _, none, some _, some _, some _, none, none, some _, none, none, none, some _, some _, some _, some _, some _, some _, some _, some _, some _, some _, none, none, none]) dL_values_459 rfl (Nat.le_of_ble_eq_true rfl) rfl ?_
                  first | refine v_iinc1 C (lo2 := [some _, some _, none, some _, some _, some _, none, none, some _, none, none, none, some _, some _, some _, some _, some _, some _, some _, some _, some _, some _, none, none, none]) dL_values_461 rfl rfl rfl ?_ | refine v_iinc C (lo2 := [some _, some _, none, some _, some _, some _, none, none, some _, none, none, none, some _, some _, some _, some _, some _, some _, some _, some _, some _, some _, none, none, none]) dL_values_461 rfl rfl rfl rfl ?_
                  refine v_goto C 355 dL_values_464 (by decide) ?_
                  refine V.sub (lo2 := [some _, some _, none, some _, some _, some _, none, none, some _, none, none, none, some _, some _, some _, some _, some _, some _, some _, some _, some _, none, none, none, none]) ⟨rfl, rfl, rfl, rfl, rfl, rfl, rfl, rfl, rfl, rfl, rfl, rfl, rfl, rfl, rfl, trivial⟩ ?_
                  rw [decide_eq_false (by omega), if_neg Bool.false_ne_true] at g4
                  exact ih355 (j + 1, f + 0, nstep m (nI 0) j (some q)) (by show n - (j + 1) < n - j; omega) ⟨by show j + 1 ≤ n; omega, g2, (fun p z => old_in hjn ho (g3 q rfl) z), by show f + 0 + cntG (crs m a c) (j + 1) (n - (j + 1)) = cntG (crs m a c) 0 n; omega, by show f + 0 ≤ j + 1; omega⟩
                · refine v_iconst (v := nI 1) C dL_values_453 (by decide) ?_
                  refine v_goto C 458 dL_values_454 (by decide) ?_
                  first | refine v_iaddN C dL_values_458 ?_ | refine v_iadd C dL_values_458 ?_
                  refine v_istore C (lo2 := [some _, some _, none, some _, some _, some _, none, none, some _, none, none, none, some _, some _, some _, some _, some _, some _, some _, some _, some _, some _, none, none, none]) dL_values_459 rfl (Nat.le_of_ble_eq_true rfl) rfl ?_
                  first | refine v_iinc1 C (lo2 := [some _, some _, none, some _, some _, some _, none, none, some _, none, none, none, some _, some _, some _, some _, some _, some _, some _, some _, some _, some _, none, none, none]) dL_values_461 rfl rfl rfl ?_ | refine v_iinc C (lo2 := [some _, some _, none, some _, some _, some _, none, none, some _, none, none, none, some _, some _, some _, some _, some _, some _, some _, some _, some _, some _, none, none, none]) dL_values_461 rfl rfl rfl rfl ?_
                  refine v_goto C 355 dL_values_464 (by decide) ?_
                  refine V.sub (lo2 := [some _, some _, none, some _, some _, some _, none, none, some _, none, none, none, some _, some _, some _, some _, some _, some _, some _, some _, some _, none, none, none, none]) ⟨rfl, rfl, rfl, rfl, rfl, rfl, rfl, rfl, rfl, rfl, rfl, rfl, rfl, rfl, rfl, trivial⟩ ?_
                  rw [decide_eq_true (by omega), if_pos rfl] at g4
                  exact ih355 (j + 1, f + 1, nstep m (nI 0) j (some q)) (by show n - (j + 1) < n - j; omega) ⟨by show j + 1 ≤ n; omega, g2, (fun p z => old_in hjn ho (g3 q rfl) z), by show f + 1 + cntG (crs m a c) (j + 1) (n - (j + 1)) = cntG (crs m a c) 0 n; omega, by show f + 1 ≤ j + 1; omega⟩
            · refine v_aload C dL_values_417 rfl ?_
              refine v_gFN (K := fun w => cS (xK X) g ((s, m), (sT, mT), rr, hh, sl, tx) ++ (w ++ dS (xK X) b (i + 1 + 1 + 1 + 1))) C (Cxt.l _ (Cxt.r _ Cxt.id)) (v := .int (nI j)) (5 + j) fln_L_175 (plc_at hjn) rfl dL_values_419 ?_
              refine v_iload C dL_values_422 rfl ?_
              first | refine v_icmp_leN C 457 dL_values_424 (by decide) (by omega) (by omega) (fun c424 => ?_) (fun c424 => ?_) | refine v_icmp_le C 457 dL_values_424 (by decide) (fun c424 => ?_) (fun c424 => ?_)
              · refine v_iconst (v := nI 0) C dL_values_457 (by decide) ?_
                first | refine v_iaddN C dL_values_458 ?_ | refine v_iadd C dL_values_458 ?_
                refine v_istore C (lo2 := [some _, some _, none, some _, some _, some _, none, none, some _, none, none, none, some _, some _, some _, some _, some _, some _, some _, some _, some _, some _, none, none, none]) dL_values_459 rfl (Nat.le_of_ble_eq_true rfl) rfl ?_
                first | refine v_iinc1 C (lo2 := [some _, some _, none, some _, some _, some _, none, none, some _, none, none, none, some _, some _, some _, some _, some _, some _, some _, some _, some _, some _, none, none, none]) dL_values_461 rfl rfl rfl ?_ | refine v_iinc C (lo2 := [some _, some _, none, some _, some _, some _, none, none, some _, none, none, none, some _, some _, some _, some _, some _, some _, some _, some _, some _, some _, none, none, none]) dL_values_461 rfl rfl rfl rfl ?_
                refine v_goto C 355 dL_values_464 (by decide) ?_
                refine V.sub (lo2 := [some _, some _, none, some _, some _, some _, none, none, some _, none, none, none, some _, some _, some _, some _, some _, some _, some _, some _, some _, none, none, none, none]) ⟨rfl, rfl, rfl, rfl, rfl, rfl, rfl, rfl, rfl, rfl, rfl, rfl, rfl, rfl, rfl, trivial⟩ ?_
                rw [decide_eq_false (by omega), if_neg Bool.false_ne_true] at g4
                exact ih355 (j + 1, f + 0, nstep m (nI 0) j (some q)) (by show n - (j + 1) < n - j; omega) ⟨by show j + 1 ≤ n; omega, g2, (fun p z => old_in hjn ho (g3 q rfl) z), by show f + 0 + cntG (crs m a c) (j + 1) (n - (j + 1)) = cntG (crs m a c) 0 n; omega, by show f + 0 ≤ j + 1; omega⟩
              · refine v_aload C dL_values_427 rfl ?_
                refine v_gFN (K := fun w => cS (xK X) g ((s, m), (sT, mT), rr, hh, sl, tx) ++ (w ++ dS (xK X) b (i + 1 + 1 + 1 + 1))) C (Cxt.l _ (Cxt.r _ Cxt.id)) (v := va_rf (srcV h m j)) (5 + j) fln_L_190 (plc_at hjn) rfl dL_values_429 ?_
                rw [srcV_t hno]
                refine v_gFN (K := fun w => cS (xK X) g ((s, m), (sT, mT), rr, hh, sl, tx) ++ (w ++ dS (xK X) b (i + 1 + 1 + 1 + 1))) C (Cxt.l _ (Cxt.r _ Cxt.id)) (v := .int (nI (src m j))) (5 + (src m j)) fln_L_175 (plc_at hsr.1) rfl dL_values_432 ?_
                refine v_iload C dL_values_435 rfl ?_
                first | refine v_icmp_ltN C 457 dL_values_437 (by decide) (by omega) (by omega) (fun c437 => ?_) (fun c437 => ?_) | refine v_icmp_lt C 457 dL_values_437 (by decide) (fun c437 => ?_) (fun c437 => ?_)
                · refine v_iconst (v := nI 0) C dL_values_457 (by decide) ?_
                  first | refine v_iaddN C dL_values_458 ?_ | refine v_iadd C dL_values_458 ?_
                  refine v_istore C (lo2 := [some _, some _, none, some _, some _, some _, none, none, some _, none, none, none, some _, some _, some _, some _, some _, some _, some _, some _, some _, some _, none, none, none]) dL_values_459 rfl (Nat.le_of_ble_eq_true rfl) rfl ?_
                  first | refine v_iinc1 C (lo2 := [some _, some _, none, some _, some _, some _, none, none, some _, none, none, none, some _, some _, some _, some _, some _, some _, some _, some _, some _, some _, none, none, none]) dL_values_461 rfl rfl rfl ?_ | refine v_iinc C (lo2 := [some _, some _, none, some _, some _, some _, none, none, some _, none, none, none, some _, some _, some _, some _, some _, some _, some _, some _, some _, some _, none, none, none]) dL_values_461 rfl rfl rfl rfl ?_
                  refine v_goto C 355 dL_values_464 (by decide) ?_
                  refine V.sub (lo2 := [some _, some _, none, some _, some _, some _, none, none, some _, none, none, none, some _, some _, some _, some _, some _, some _, some _, some _, some _, none, none, none, none]) ⟨rfl, rfl, rfl, rfl, rfl, rfl, rfl, rfl, rfl, rfl, rfl, rfl, rfl, rfl, rfl, trivial⟩ ?_
                  rw [decide_eq_false (by omega), if_neg Bool.false_ne_true] at g4
                  exact ih355 (j + 1, f + 0, nstep m (nI 0) j (some q)) (by show n - (j + 1) < n - j; omega) ⟨by show j + 1 ≤ n; omega, g2, (fun p z => old_in hjn ho (g3 q rfl) z), by show f + 0 + cntG (crs m a c) (j + 1) (n - (j + 1)) = cntG (crs m a c) 0 n; omega, by show f + 0 ≤ j + 1; omega⟩
                · refine v_aload C dL_values_440 rfl ?_
                  refine v_gFN (K := fun w => cS (xK X) g ((s, m), (sT, mT), rr, hh, sl, tx) ++ (w ++ dS (xK X) b (i + 1 + 1 + 1 + 1))) C (Cxt.l _ (Cxt.r _ Cxt.id)) (v := va_rf (srcV h m j)) (5 + j) fln_L_190 (plc_at hjn) rfl dL_values_442 ?_
                  rw [srcV_t hno]
                  refine v_gFN (K := fun w => cS (xK X) g ((s, m), (sT, mT), rr, hh, sl, tx) ++ (w ++ dS (xK X) b (i + 1 + 1 + 1 + 1))) C (Cxt.l _ (Cxt.r _ Cxt.id)) (v := .int (nI (src m j))) (5 + (src m j)) fln_L_175 (plc_at hsr.1) rfl dL_values_445 ?_
                  refine v_iload C dL_values_448 rfl ?_
                  first | refine v_icmp_gtN C 457 dL_values_450 (by decide) (by omega) (by omega) (fun c450 => ?_) (fun c450 => ?_) | refine v_icmp_gt C 457 dL_values_450 (by decide) (fun c450 => ?_) (fun c450 => ?_)
                  · refine v_iconst (v := nI 0) C dL_values_457 (by decide) ?_
                    first | refine v_iaddN C dL_values_458 ?_ | refine v_iadd C dL_values_458 ?_
                    refine v_istore C (lo2 := [some _, some _, none, some _, some _, some _, none, none, some _, none, none, none, some _, some _, some _, some _, some _, some _, some _, some _, some _, some _, none, none, none]) dL_values_459 rfl (Nat.le_of_ble_eq_true rfl) rfl ?_
                    first | refine v_iinc1 C (lo2 := [some _, some _, none, some _, some _, some _, none, none, some _, none, none, none, some _, some _, some _, some _, some _, some _, some _, some _, some _, some _, none, none, none]) dL_values_461 rfl rfl rfl ?_ | refine v_iinc C (lo2 := [some _, some _, none, some _, some _, some _, none, none, some _, none, none, none, some _, some _, some _, some _, some _, some _, some _, some _, some _, some _, none, none, none]) dL_values_461 rfl rfl rfl rfl ?_
                    refine v_goto C 355 dL_values_464 (by decide) ?_
                    refine V.sub (lo2 := [some _, some _, none, some _, some _, some _, none, none, some _, none, none, none, some _, some _, some _, some _, some _, some _, some _, some _, some _, none, none, none, none]) ⟨rfl, rfl, rfl, rfl, rfl, rfl, rfl, rfl, rfl, rfl, rfl, rfl, rfl, rfl, rfl, trivial⟩ ?_
                    rw [decide_eq_false (by omega), if_neg Bool.false_ne_true] at g4
                    exact ih355 (j + 1, f + 0, nstep m (nI 0) j (some q)) (by show n - (j + 1) < n - j; omega) ⟨by show j + 1 ≤ n; omega, g2, (fun p z => old_in hjn ho (g3 q rfl) z), by show f + 0 + cntG (crs m a c) (j + 1) (n - (j + 1)) = cntG (crs m a c) 0 n; omega, by show f + 0 ≤ j + 1; omega⟩
                  · refine v_iconst (v := nI 1) C dL_values_453 (by decide) ?_
                    refine v_goto C 458 dL_values_454 (by decide) ?_
                    first | refine v_iaddN C dL_values_458 ?_ | refine v_iadd C dL_values_458 ?_
                    refine v_istore C (lo2 := [some _, some _, none, some _, some _, some _, none, none, some _, none, none, none, some _, some _, some _, some _, some _, some _, some _, some _, some _, some _, none, none, none]) dL_values_459 rfl (Nat.le_of_ble_eq_true rfl) rfl ?_
                    first | refine v_iinc1 C (lo2 := [some _, some _, none, some _, some _, some _, none, none, some _, none, none, none, some _, some _, some _, some _, some _, some _, some _, some _, some _, some _, none, none, none]) dL_values_461 rfl rfl rfl ?_ | refine v_iinc C (lo2 := [some _, some _, none, some _, some _, some _, none, none, some _, none, none, none, some _, some _, some _, some _, some _, some _, some _, some _, some _, some _, none, none, none]) dL_values_461 rfl rfl rfl rfl ?_
                    refine v_goto C 355 dL_values_464 (by decide) ?_
                    refine V.sub (lo2 := [some _, some _, none, some _, some _, some _, none, none, some _, none, none, none, some _, some _, some _, some _, some _, some _, some _, some _, some _, none, none, none, none]) ⟨rfl, rfl, rfl, rfl, rfl, rfl, rfl, rfl, rfl, rfl, rfl, rfl, rfl, rfl, rfl, trivial⟩ ?_
                    rw [decide_eq_true (by omega), if_pos rfl] at g4
                    exact ih355 (j + 1, f + 1, nstep m (nI 0) j (some q)) (by show n - (j + 1) < n - j; omega) ⟨by show j + 1 ≤ n; omega, g2, (fun p z => old_in hjn ho (g3 q rfl) z), by show f + 1 + cntG (crs m a c) (j + 1) (n - (j + 1)) = cntG (crs m a c) 0 n; omega, by show f + 1 ≤ j + 1; omega⟩
          · exact absurd (show 0 ≤ (m 3 q).toInt by rw [e3, nI_toInt (by omega)]; omega) c382
      · have ho : owb m j = false := owb_f.mpr (srcV_no.mp c374)
        rw [nst_f ho] at g2
        rw [crs_n ho, if_neg Bool.false_ne_true] at g4
        refine v_goto C 461 dL_values_377 (by decide) ?_
        first | refine v_iinc1 C (lo2 := [some _, some _, none, some _, some _, some _, none, none, some _, none, none, none, some _, some _, some _, some _, some _, some _, some _, some _, some _, some _, none, none, none]) dL_values_461 rfl rfl rfl ?_ | refine v_iinc C (lo2 := [some _, some _, none, some _, some _, some _, none, none, some _, none, none, none, some _, some _, some _, some _, some _, some _, some _, some _, some _, some _, none, none, none]) dL_values_461 rfl rfl rfl rfl ?_
        refine v_goto C 355 dL_values_464 (by decide) ?_
        refine V.sub (lo2 := [some _, some _, none, some _, some _, some _, none, none, some _, none, none, none, some _, some _, some _, some _, some _, some _, some _, some _, some _, none, none, none, none]) ⟨rfl, rfl, rfl, rfl, rfl, rfl, rfl, rfl, rfl, rfl, rfl, rfl, rfl, rfl, rfl, trivial⟩ ?_
        exact ih355 (j + 1, f, o) (by show n - (j + 1) < n - j; omega) ⟨by show j + 1 ≤ n; omega, g2, g3, by show f + cntG (crs m a c) (j + 1) (n - (j + 1)) = cntG (crs m a c) 0 n; omega, by show f ≤ j + 1; omega⟩
  exact L355 (0, 0, none) ⟨Nat.zero_le _, rfl, fun q z => (by cases z), Nat.zero_add _, Nat.le_refl _⟩
