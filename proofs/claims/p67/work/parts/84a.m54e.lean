set_option maxHeartbeats 2000000 in
theorem db_E {X : Cx} {g h e : Nat → Nat} {n cM sq k K0 N0 : Nat} {m : Mg} {p : Int32} {u : Cg} {T : List Nat} {sv N : Nat} {D : Option Nat} (hl : (xl X).stackTraces = false) (C : Ok SS MM X RL cL_debts 17 17 4200 140000) (F : FinG X (some FieldType.boolean) ri (fun r w => r = nI 1 ∧ ∃ u', GU m u' ∧ w = cS (xK X) g u' ++ lmW (xK X) h n (m, e, p)) (fun _ _ => False) 4200 140000) (hG : GU m u) (hW : WM n cM m) (hI : LI n m) (n1 : ¬ n = 0) (hS : SbOK N T) (hTL : T.length ≤ 200) (hTT : T.map nI = dbsT m n) (hD : D = nextM m n (nI 2)) (hK0 : K0 ≤ 900) (hN0 : N0 ≤ 114000)  : V X iW 459 [some (.ref (g 0)), some (.ref (h 0)), some (.int (nI (cntG (startM m) 0 n))), some (.int (nI (cntG (stlB m) 0 n))), some (.int (nI (cntG (crdB m n) 0 n))), some (.ref sq), some (va_rf (oH h D)), none, none, none, none, none, none, none, none, none, none] [] ((cS (xK X) g u ++ sbW (xK X) sq sv N T) ++ lmW (xK X) h n (m, e, p)) K0 N0 := by
  obtain ⟨s, ⟨sT, mT⟩, rr, hh, sl, tx, L0, rfl, hH⟩ := hG
  have h14 := hI.1
  have hIM := hI.im
  have hE := hI.ev
  have hset := hI.set
  have hn31 : n < 2 ^ 31 := by omega
  have hn96 : n ≤ 96 := by omega
  cases D with
  | none =>
    have hd : nextM m n (nI 2) = none := hD.symm
    refine v_aload_n C dL_debts_459 rfl ?_
    refine v_gVq (K := fun w => (cS (xK X) g ((s, m), (sT, mT), rr, hh, sl, tx) ++ sbW (xK X) sq sv N (T)) ++ w) C (Cxt.l _ Cxt.id) 0 (c_X7_next hl hIM h14 hset.1) ym_X7_next ml_L_281 lm_0 rfl rfl rfl dL_debts_460 (by first | omega | exact Nat.le_of_ble_eq_true rfl) (by first | omega | exact Nat.le_of_ble_eq_true rfl) (by first | omega | exact Nat.le_of_ble_eq_true rfl) (Nat.le_of_ble_eq_true rfl) (fun _ _ hu => hu.elim) (fun r u hu => ?_)
    obtain ⟨rfl, rfl⟩ := hu
    rcases hnx : nextM m n (m 5 2) with _ | r
    · skip
      refine v_astoreq C (x := none) (lo2 := [some _, some _, some _, some _, some _, some _, some _, some _, none, none, none, none, none, none, none, none, none]) dL_debts_463 rfl (Nat.le_of_ble_eq_true rfl) rfl ?_
      refine v_aload_n C dL_debts_465 rfl ?_
      refine v_kVi (K := fun w => (w ++ sbW (xK X) sq sv N (T)) ++ lmW (xK X) h n (m, e, p)) C (Cxt.r _ (Cxt.r _ Cxt.id)) (c_X5_debts hl (c := cM) hW) ym_X5_debts ml_L_283 fix_cS cS_0 rfl rfl rfl dL_debts_466 (by first | omega | exact Nat.le_of_ble_eq_true rfl) (by first | omega | exact Nat.le_of_ble_eq_true rfl) (by first | omega | exact Nat.le_of_ble_eq_true rfl) (Nat.le_of_ble_eq_true rfl) (fun _ _ hu => (noU (cd_0 n1) hu.1).elim) (fun r u hu => ?_)
      obtain ⟨⟨-, rfl⟩, s, ⟨sT, mT⟩, rfl⟩ := hu
      refine v_iload_n C dL_debts_469 rfl ?_
      refine v_icmp_ne C 553 dL_debts_470 (by decide) (fun c470 => ?_) (fun c470 => ?_)
      · exact absurd rfl c470
      · refine v_aload_n C dL_debts_473 rfl ?_
        refine v_kVi (K := fun w => (w ++ sbW (xK X) sq sv N (T)) ++ lmW (xK X) h n (m, e, p)) C (Cxt.r _ (Cxt.r _ Cxt.id)) (c_X5_stale hl (c := cM) hW) ym_X5_stale ml_L_286 fix_cS cS_0 rfl rfl rfl dL_debts_474 (by first | omega | exact Nat.le_of_ble_eq_true rfl) (by first | omega | exact Nat.le_of_ble_eq_true rfl) (by first | omega | exact Nat.le_of_ble_eq_true rfl) (Nat.le_of_ble_eq_true rfl) (fun _ _ hu => (noU (cd_0 n1) hu.1).elim) (fun r u hu => ?_)
        obtain ⟨⟨-, rfl⟩, s, ⟨sT, mT⟩, rfl⟩ := hu
        refine v_iload_n C dL_debts_477 rfl ?_
        refine v_icmp_ne C 553 dL_debts_478 (by decide) (fun c478 => ?_) (fun c478 => ?_)
        · exact absurd rfl c478
        · refine v_aload_n C dL_debts_481 rfl ?_
          refine v_kVi (K := fun w => (w ++ sbW (xK X) sq sv N (T)) ++ lmW (xK X) h n (m, e, p)) C (Cxt.r _ (Cxt.r _ Cxt.id)) (c_X5_creditors hl (c := cM) hW) ym_X5_creditors ml_L_289 fix_cS cS_0 rfl rfl rfl dL_debts_482 (by first | omega | exact Nat.le_of_ble_eq_true rfl) (by first | omega | exact Nat.le_of_ble_eq_true rfl) (by first | omega | exact Nat.le_of_ble_eq_true rfl) (Nat.le_of_ble_eq_true rfl) (fun _ _ hu => (noU (cd_0 n1) hu.1).elim) (fun r u hu => ?_)
          obtain ⟨⟨-, rfl⟩, s, ⟨sT, mT⟩, rfl⟩ := hu
          refine v_iload C dL_debts_485 rfl ?_
          refine v_icmp_ne C 553 dL_debts_487 (by decide) (fun c487 => ?_) (fun c487 => ?_)
          · exact absurd rfl c487
          · refine v_aload_n C dL_debts_490 rfl ?_
            refine v_kVi (K := fun w => (w ++ sbW (xK X) sq sv N (T)) ++ lmW (xK X) h n (m, e, p)) C (Cxt.r _ (Cxt.r _ Cxt.id)) (c_X5_deepest hl (c := cM) hW) ym_X5_deepest ml_L_292 fix_cS cS_0 rfl rfl rfl dL_debts_491 (by first | omega | exact Nat.le_of_ble_eq_true rfl) (by first | omega | exact Nat.le_of_ble_eq_true rfl) (by first | omega | exact Nat.le_of_ble_eq_true rfl) (Nat.le_of_ble_eq_true rfl) (fun _ _ hu => (noU (cd_0 n1) hu.1).elim) (fun r u hu => ?_)
            obtain ⟨⟨-, rfl⟩, s, ⟨sT, mT⟩, rfl⟩ := hu
            rw [hd]
            refine v_aloadq C (x := none) dL_debts_494 rfl ?_
            refine v_ifnonnull C (x := none) 503 dL_debts_496 (by decide) (fun _ c => by cases c) (fun _ => ?_)
            refine v_iconst (v := (-1)) C dL_debts_499 (by decide) ?_
            refine v_goto C 508 dL_debts_500 (by decide) ?_
            refine v_icmp_ne C 553 dL_debts_508 (by decide) (fun c508 => ?_) (fun c508 => ?_)
            · exact absurd rfl c508
            · refine v_aload_n C dL_debts_511 rfl ?_
              refine v_kVi (K := fun w => (w ++ sbW (xK X) sq sv N (T)) ++ lmW (xK X) h n (m, e, p)) C (Cxt.r _ (Cxt.r _ Cxt.id)) (c_X5_most hl (c := cM) hW) ym_X5_most ml_L_295 fix_cS cS_0 rfl rfl rfl dL_debts_512 (by first | omega | exact Nat.le_of_ble_eq_true rfl) (by first | omega | exact Nat.le_of_ble_eq_true rfl) (by first | omega | exact Nat.le_of_ble_eq_true rfl) (Nat.le_of_ble_eq_true rfl) (fun _ _ hu => (noU (cd_0 n1) hu.1).elim) (fun r u hu => ?_)
              obtain ⟨⟨-, rfl⟩, s, ⟨sT, mT⟩, rfl⟩ := hu
              rw [hd]
              refine v_aloadq C (x := none) dL_debts_515 rfl ?_
              refine v_ifnonnull C (x := none) 524 dL_debts_517 (by decide) (fun _ c => by cases c) (fun _ => ?_)
              refine v_iconst (v := nI 0) C dL_debts_520 (by decide) ?_
              refine v_goto C 529 dL_debts_521 (by decide) ?_
              refine v_icmp_ne C 553 dL_debts_529 (by decide) (fun c529 => ?_) (fun c529 => ?_)
              · exact absurd rfl c529
              · refine v_aload_n C dL_debts_532 rfl ?_
                refine v_kVi (K := fun w => (w ++ sbW (xK X) sq sv N (T)) ++ lmW (xK X) h n (m, e, p)) C (Cxt.r _ (Cxt.r _ Cxt.id)) (c_X5_next hl (c := cM) hW) ym_X5_next ml_L_298 fix_cS cS_0 rfl rfl rfl dL_debts_533 (by first | omega | exact Nat.le_of_ble_eq_true rfl) (by first | omega | exact Nat.le_of_ble_eq_true rfl) (by first | omega | exact Nat.le_of_ble_eq_true rfl) (Nat.le_of_ble_eq_true rfl) (fun _ _ hu => (noU (cd_0 n1) hu.1).elim) (fun r u hu => ?_)
                obtain ⟨⟨-, rfl⟩, s, ⟨sT, mT⟩, rfl⟩ := hu
                rw [hnx]
                refine v_aloadq C (x := none) dL_debts_536 rfl ?_
                refine v_ifnonnull C (x := none) 545 dL_debts_538 (by decide) (fun _ c => by cases c) (fun _ => ?_)
                refine v_iconst (v := (-1)) C dL_debts_541 (by decide) ?_
                refine v_goto C 550 dL_debts_542 (by decide) ?_
                refine v_icmp_eq C 555 dL_debts_550 (by decide) (fun c550 => ?_) (fun c550 => ?_)
                · refine v_aload_n C dL_debts_555 rfl ?_
                  refine v_kVi (K := fun w => (w ++ sbW (xK X) sq sv N (T)) ++ lmW (xK X) h n (m, e, p)) C (Cxt.r _ (Cxt.r _ Cxt.id)) (c_X5_writeDebts hl (c := cM) hW) ym_X5_writeDebts ml_L_300 fix_cS cS_0 rfl rfl rfl dL_debts_556 (by first | omega | exact Nat.le_of_ble_eq_true rfl) (by first | omega | exact Nat.le_of_ble_eq_true rfl) (by first | omega | exact Nat.le_of_ble_eq_true rfl) (Nat.le_of_ble_eq_true rfl) (fun _ _ hu => (noU (cd_0 n1) hu.1).elim) (fun r u hu => ?_)
                  obtain ⟨⟨-, rfl⟩, s, ⟨sT, mT⟩, tx, rfl, hX⟩ := hu
                  rw [← hTT] at hX ⊢
                  rw [List.length_map]
                  refine v_aload C dL_debts_559 rfl ?_
                  refine v_gVi (K := fun w => (cS (xK X) g ((s, m), (sT, mT), rr, hh, sl, tx) ++ w) ++ lmW (xK X) h n (m, e, p)) C (Cxt.r _ (Cxt.l _ Cxt.id)) 0 (c_J4_length_8abf5 hl) ym_J4_length_8abf5 ml_L_303 rfl rfl rfl rfl dL_debts_561 (by first | omega | exact Nat.le_of_ble_eq_true rfl) (by first | omega | exact Nat.le_of_ble_eq_true rfl) (by first | omega | exact Nat.le_of_ble_eq_true rfl) (Nat.le_of_ble_eq_true rfl) (fun _ _ hu => hu.elim) (fun r u hu => ?_)
                  obtain ⟨rfl, rfl⟩ := hu
                  refine v_icmp_ne C 592 dL_debts_564 (by decide) (fun c564 => ?_) (fun c564 => ?_)
                  · exact absurd rfl c564
                  · refine v_aload_n C dL_debts_567 rfl ?_
                    refine v_aload C dL_debts_568 rfl ?_
                    refine v_gSi (K := fun w => w ++ lmW (xK X) h n (m, e, p)) C (Cxt.r _ Cxt.id) (c_L_isText hl ⟨s, (sT, mT), rr, hh, sl, tx, _, rfl, hH, hX⟩ hS (by omega)) ys_L_isText ml_L_304 rfl rfl dL_debts_570 (by first | omega | exact Nat.le_of_ble_eq_true rfl) (by first | omega | exact Nat.le_of_ble_eq_true rfl) (by first | omega | exact Nat.le_of_ble_eq_true rfl) (Nat.le_of_ble_eq_true rfl) (fun _ _ hu => hu.elim) (fun r u hu => ?_)
                    obtain ⟨rfl, u1, hG1, rfl⟩ := hu
                    obtain ⟨s, ⟨sT, mT⟩, rr, hh, sl, tx, L1, rfl, hH⟩ := hG1.gu
                    refine v_if_eq C 592 dL_debts_573 (by decide) (fun c => absurd c (by decide)) (fun c573 => ?_)
                    refine v_aload_n C dL_debts_576 rfl ?_
                    refine v_iconst (v := nI 3) C dL_debts_577 (by decide) ?_
                    refine v_iload_n C dL_debts_578 rfl ?_
                    refine v_iconst (v := nI 0) C dL_debts_579 (by decide) ?_
                    refine v_iconst (v := nI 0) C dL_debts_580 (by decide) ?_
                    refine v_gSHi (K := fun w => (w ++ sbW (xK X) sq sv N (T)) ++ lmW (xK X) h n (m, e, p)) C (Cxt.r _ (Cxt.r _ Cxt.id)) (c_thrown hl (Nat.le_of_ble_eq_true rfl) (Nat.le_of_ble_eq_true rfl) (c_calls_3 (b := _) (c := _) hl (by decide) (c_X5_debt hl hW)) (fun _ _ hu => by
                        obtain ⟨_, _, hz, _⟩ := hu
                        have hy := hz.1.1
                        rw [(cd_dbx n1 (show cntG (startM m) 0 n < 2 ^ 31 by have := cntG_le (f := startM m) n 0; omega) (kth_no n 0))] at hy
                        exact absurd hy (by decide)) (fun _ _ hp => ts_E hp.1)) ysh_L_thrown ml_L_226 rfl rfl dL_debts_581 (Nat.le_of_ble_eq_true rfl) (by first | omega | exact Nat.le_of_ble_eq_true rfl) (by first | omega | exact Nat.le_of_ble_eq_true rfl) (Nat.le_of_ble_eq_true rfl) (fun _ _ hu => hu.elim) (fun r u hu => ?_)
                    obtain ⟨e9, u9, hp, rfl, rfl⟩ := hu
                    rw [show exN e9 = 2 from ex_3 ((cd_dbx n1 (show cntG (startM m) 0 n < 2 ^ 31 by have := cntG_le (f := startM m) n 0; omega) (kth_no n 0))) hp.1]
                    obtain ⟨s, ⟨sT, mT⟩, rfl⟩ := hp.2
                    refine v_iconst (v := nI 2) C dL_debts_584 (by decide) ?_
                    refine v_icmp_ne C 592 dL_debts_585 (by decide) (fun c => absurd c (by decide)) (fun c585 => ?_)
                    refine v_iconst (v := nI 1) C dL_debts_588 (by decide) ?_
                    refine v_goto C 593 dL_debts_589 (by decide) ?_
                    refine V.drop (ws' := cS (xK X) g ((s, m), (sT, mT), rr, hh, sl, tx) ++ lmW (xK X) h n (m, e, p)) ((List.sublist_append_left _ _).append (List.Sublist.refl _)) ?_
                    refine v_iretG C F (by first | rfl | exact bI_nar _) dL_debts_593 (by first | omega | exact Nat.le_of_ble_eq_true rfl) (by first | omega | exact Nat.le_of_ble_eq_true rfl) rfl (List.Perm.refl _) ?_
                    exact ⟨rfl, _, ⟨s, (sT, mT), rr, hh, sl, tx, _, rfl, hH⟩, rfl⟩
                · exact absurd rfl c550
    · have hr : r < n := ((next_inv n).1 r hnx).1
      refine v_astore C (lo2 := [some _, some _, some _, some _, some _, some _, some _, some _, none, none, none, none, none, none, none, none, none]) dL_debts_463 rfl (Nat.le_of_ble_eq_true rfl) rfl ?_
      refine v_aload_n C dL_debts_465 rfl ?_
      refine v_kVi (K := fun w => (w ++ sbW (xK X) sq sv N (T)) ++ lmW (xK X) h n (m, e, p)) C (Cxt.r _ (Cxt.r _ Cxt.id)) (c_X5_debts hl (c := cM) hW) ym_X5_debts ml_L_283 fix_cS cS_0 rfl rfl rfl dL_debts_466 (by first | omega | exact Nat.le_of_ble_eq_true rfl) (by first | omega | exact Nat.le_of_ble_eq_true rfl) (by first | omega | exact Nat.le_of_ble_eq_true rfl) (Nat.le_of_ble_eq_true rfl) (fun _ _ hu => (noU (cd_0 n1) hu.1).elim) (fun r u hu => ?_)
      obtain ⟨⟨-, rfl⟩, s, ⟨sT, mT⟩, rfl⟩ := hu
      refine v_iload_n C dL_debts_469 rfl ?_
      refine v_icmp_ne C 553 dL_debts_470 (by decide) (fun c470 => ?_) (fun c470 => ?_)
      · exact absurd rfl c470
      · refine v_aload_n C dL_debts_473 rfl ?_
        refine v_kVi (K := fun w => (w ++ sbW (xK X) sq sv N (T)) ++ lmW (xK X) h n (m, e, p)) C (Cxt.r _ (Cxt.r _ Cxt.id)) (c_X5_stale hl (c := cM) hW) ym_X5_stale ml_L_286 fix_cS cS_0 rfl rfl rfl dL_debts_474 (by first | omega | exact Nat.le_of_ble_eq_true rfl) (by first | omega | exact Nat.le_of_ble_eq_true rfl) (by first | omega | exact Nat.le_of_ble_eq_true rfl) (Nat.le_of_ble_eq_true rfl) (fun _ _ hu => (noU (cd_0 n1) hu.1).elim) (fun r u hu => ?_)
        obtain ⟨⟨-, rfl⟩, s, ⟨sT, mT⟩, rfl⟩ := hu
        refine v_iload_n C dL_debts_477 rfl ?_
        refine v_icmp_ne C 553 dL_debts_478 (by decide) (fun c478 => ?_) (fun c478 => ?_)
        · exact absurd rfl c478
        · refine v_aload_n C dL_debts_481 rfl ?_
          refine v_kVi (K := fun w => (w ++ sbW (xK X) sq sv N (T)) ++ lmW (xK X) h n (m, e, p)) C (Cxt.r _ (Cxt.r _ Cxt.id)) (c_X5_creditors hl (c := cM) hW) ym_X5_creditors ml_L_289 fix_cS cS_0 rfl rfl rfl dL_debts_482 (by first | omega | exact Nat.le_of_ble_eq_true rfl) (by first | omega | exact Nat.le_of_ble_eq_true rfl) (by first | omega | exact Nat.le_of_ble_eq_true rfl) (Nat.le_of_ble_eq_true rfl) (fun _ _ hu => (noU (cd_0 n1) hu.1).elim) (fun r u hu => ?_)
          obtain ⟨⟨-, rfl⟩, s, ⟨sT, mT⟩, rfl⟩ := hu
          refine v_iload C dL_debts_485 rfl ?_
          refine v_icmp_ne C 553 dL_debts_487 (by decide) (fun c487 => ?_) (fun c487 => ?_)
          · exact absurd rfl c487
          · refine v_aload_n C dL_debts_490 rfl ?_
            refine v_kVi (K := fun w => (w ++ sbW (xK X) sq sv N (T)) ++ lmW (xK X) h n (m, e, p)) C (Cxt.r _ (Cxt.r _ Cxt.id)) (c_X5_deepest hl (c := cM) hW) ym_X5_deepest ml_L_292 fix_cS cS_0 rfl rfl rfl dL_debts_491 (by first | omega | exact Nat.le_of_ble_eq_true rfl) (by first | omega | exact Nat.le_of_ble_eq_true rfl) (by first | omega | exact Nat.le_of_ble_eq_true rfl) (Nat.le_of_ble_eq_true rfl) (fun _ _ hu => (noU (cd_0 n1) hu.1).elim) (fun r u hu => ?_)
            obtain ⟨⟨-, rfl⟩, s, ⟨sT, mT⟩, rfl⟩ := hu
            rw [hd]
            refine v_aloadq C (x := none) dL_debts_494 rfl ?_
            refine v_ifnonnull C (x := none) 503 dL_debts_496 (by decide) (fun _ c => by cases c) (fun _ => ?_)
            refine v_iconst (v := (-1)) C dL_debts_499 (by decide) ?_
            refine v_goto C 508 dL_debts_500 (by decide) ?_
            refine v_icmp_ne C 553 dL_debts_508 (by decide) (fun c508 => ?_) (fun c508 => ?_)
            · exact absurd rfl c508
            · refine v_aload_n C dL_debts_511 rfl ?_
              refine v_kVi (K := fun w => (w ++ sbW (xK X) sq sv N (T)) ++ lmW (xK X) h n (m, e, p)) C (Cxt.r _ (Cxt.r _ Cxt.id)) (c_X5_most hl (c := cM) hW) ym_X5_most ml_L_295 fix_cS cS_0 rfl rfl rfl dL_debts_512 (by first | omega | exact Nat.le_of_ble_eq_true rfl) (by first | omega | exact Nat.le_of_ble_eq_true rfl) (by first | omega | exact Nat.le_of_ble_eq_true rfl) (Nat.le_of_ble_eq_true rfl) (fun _ _ hu => (noU (cd_0 n1) hu.1).elim) (fun r u hu => ?_)
              obtain ⟨⟨-, rfl⟩, s, ⟨sT, mT⟩, rfl⟩ := hu
              rw [hd]
              refine v_aloadq C (x := none) dL_debts_515 rfl ?_
              refine v_ifnonnull C (x := none) 524 dL_debts_517 (by decide) (fun _ c => by cases c) (fun _ => ?_)
              refine v_iconst (v := nI 0) C dL_debts_520 (by decide) ?_
              refine v_goto C 529 dL_debts_521 (by decide) ?_
              refine v_icmp_ne C 553 dL_debts_529 (by decide) (fun c529 => ?_) (fun c529 => ?_)
              · exact absurd rfl c529
              · refine v_aload_n C dL_debts_532 rfl ?_
                refine v_kVi (K := fun w => (w ++ sbW (xK X) sq sv N (T)) ++ lmW (xK X) h n (m, e, p)) C (Cxt.r _ (Cxt.r _ Cxt.id)) (c_X5_next hl (c := cM) hW) ym_X5_next ml_L_298 fix_cS cS_0 rfl rfl rfl dL_debts_533 (by first | omega | exact Nat.le_of_ble_eq_true rfl) (by first | omega | exact Nat.le_of_ble_eq_true rfl) (by first | omega | exact Nat.le_of_ble_eq_true rfl) (Nat.le_of_ble_eq_true rfl) (fun _ _ hu => (noU (cd_0 n1) hu.1).elim) (fun r u hu => ?_)
                obtain ⟨⟨-, rfl⟩, s, ⟨sT, mT⟩, rfl⟩ := hu
                rw [hnx]
                refine v_aload C dL_debts_536 rfl ?_
                refine v_ifnonnull C (x := some (h (8 + r))) 545 dL_debts_538 (by decide) (fun _ _ => ?_) (fun c => by cases c)
                refine v_aload C dL_debts_545 rfl ?_
                refine v_gFN (K := fun w => (cS (xK X) g ((s, m), (sT, mT), rr, hh, sl, tx) ++ sbW (xK X) sq sv N (T)) ++ w) C (Cxt.l _ Cxt.id) (v := .int (nI r)) (5 + r) fln_L_175 (plc_at hr) rfl dL_debts_547 ?_
                refine v_icmp_eq C 555 dL_debts_550 (by decide) (fun c550 => ?_) (fun c550 => ?_)
                · refine v_aload_n C dL_debts_555 rfl ?_
                  refine v_kVi (K := fun w => (w ++ sbW (xK X) sq sv N (T)) ++ lmW (xK X) h n (m, e, p)) C (Cxt.r _ (Cxt.r _ Cxt.id)) (c_X5_writeDebts hl (c := cM) hW) ym_X5_writeDebts ml_L_300 fix_cS cS_0 rfl rfl rfl dL_debts_556 (by first | omega | exact Nat.le_of_ble_eq_true rfl) (by first | omega | exact Nat.le_of_ble_eq_true rfl) (by first | omega | exact Nat.le_of_ble_eq_true rfl) (Nat.le_of_ble_eq_true rfl) (fun _ _ hu => (noU (cd_0 n1) hu.1).elim) (fun r u hu => ?_)
                  obtain ⟨⟨-, rfl⟩, s, ⟨sT, mT⟩, tx, rfl, hX⟩ := hu
                  rw [← hTT] at hX ⊢
                  rw [List.length_map]
                  refine v_aload C dL_debts_559 rfl ?_
                  refine v_gVi (K := fun w => (cS (xK X) g ((s, m), (sT, mT), rr, hh, sl, tx) ++ w) ++ lmW (xK X) h n (m, e, p)) C (Cxt.r _ (Cxt.l _ Cxt.id)) 0 (c_J4_length_8abf5 hl) ym_J4_length_8abf5 ml_L_303 rfl rfl rfl rfl dL_debts_561 (by first | omega | exact Nat.le_of_ble_eq_true rfl) (by first | omega | exact Nat.le_of_ble_eq_true rfl) (by first | omega | exact Nat.le_of_ble_eq_true rfl) (Nat.le_of_ble_eq_true rfl) (fun _ _ hu => hu.elim) (fun r u hu => ?_)
                  obtain ⟨rfl, rfl⟩ := hu
                  refine v_icmp_ne C 592 dL_debts_564 (by decide) (fun c564 => ?_) (fun c564 => ?_)
                  · exact absurd rfl c564
                  · refine v_aload_n C dL_debts_567 rfl ?_
                    refine v_aload C dL_debts_568 rfl ?_
                    refine v_gSi (K := fun w => w ++ lmW (xK X) h n (m, e, p)) C (Cxt.r _ Cxt.id) (c_L_isText hl ⟨s, (sT, mT), rr, hh, sl, tx, _, rfl, hH, hX⟩ hS (by omega)) ys_L_isText ml_L_304 rfl rfl dL_debts_570 (by first | omega | exact Nat.le_of_ble_eq_true rfl) (by first | omega | exact Nat.le_of_ble_eq_true rfl) (by first | omega | exact Nat.le_of_ble_eq_true rfl) (Nat.le_of_ble_eq_true rfl) (fun _ _ hu => hu.elim) (fun r u hu => ?_)
                    obtain ⟨rfl, u1, hG1, rfl⟩ := hu
                    obtain ⟨s, ⟨sT, mT⟩, rr, hh, sl, tx, L1, rfl, hH⟩ := hG1.gu
                    refine v_if_eq C 592 dL_debts_573 (by decide) (fun c => absurd c (by decide)) (fun c573 => ?_)
                    refine v_aload_n C dL_debts_576 rfl ?_
                    refine v_iconst (v := nI 3) C dL_debts_577 (by decide) ?_
                    refine v_iload_n C dL_debts_578 rfl ?_
                    refine v_iconst (v := nI 0) C dL_debts_579 (by decide) ?_
                    refine v_iconst (v := nI 0) C dL_debts_580 (by decide) ?_
                    refine v_gSHi (K := fun w => (w ++ sbW (xK X) sq sv N (T)) ++ lmW (xK X) h n (m, e, p)) C (Cxt.r _ (Cxt.r _ Cxt.id)) (c_thrown hl (Nat.le_of_ble_eq_true rfl) (Nat.le_of_ble_eq_true rfl) (c_calls_3 (b := _) (c := _) hl (by decide) (c_X5_debt hl hW)) (fun _ _ hu => by
                        obtain ⟨_, _, hz, _⟩ := hu
                        have hy := hz.1.1
                        rw [(cd_dbx n1 (show cntG (startM m) 0 n < 2 ^ 31 by have := cntG_le (f := startM m) n 0; omega) (kth_no n 0))] at hy
                        exact absurd hy (by decide)) (fun _ _ hp => ts_E hp.1)) ysh_L_thrown ml_L_226 rfl rfl dL_debts_581 (Nat.le_of_ble_eq_true rfl) (by first | omega | exact Nat.le_of_ble_eq_true rfl) (by first | omega | exact Nat.le_of_ble_eq_true rfl) (Nat.le_of_ble_eq_true rfl) (fun _ _ hu => hu.elim) (fun r u hu => ?_)
                    obtain ⟨e9, u9, hp, rfl, rfl⟩ := hu
                    rw [show exN e9 = 2 from ex_3 ((cd_dbx n1 (show cntG (startM m) 0 n < 2 ^ 31 by have := cntG_le (f := startM m) n 0; omega) (kth_no n 0))) hp.1]
                    obtain ⟨s, ⟨sT, mT⟩, rfl⟩ := hp.2
                    refine v_iconst (v := nI 2) C dL_debts_584 (by decide) ?_
                    refine v_icmp_ne C 592 dL_debts_585 (by decide) (fun c => absurd c (by decide)) (fun c585 => ?_)
                    refine v_iconst (v := nI 1) C dL_debts_588 (by decide) ?_
                    refine v_goto C 593 dL_debts_589 (by decide) ?_
                    refine V.drop (ws' := cS (xK X) g ((s, m), (sT, mT), rr, hh, sl, tx) ++ lmW (xK X) h n (m, e, p)) ((List.sublist_append_left _ _).append (List.Sublist.refl _)) ?_
                    refine v_iretG C F (by first | rfl | exact bI_nar _) dL_debts_593 (by first | omega | exact Nat.le_of_ble_eq_true rfl) (by first | omega | exact Nat.le_of_ble_eq_true rfl) rfl (List.Perm.refl _) ?_
                    exact ⟨rfl, _, ⟨s, (sT, mT), rr, hh, sl, tx, _, rfl, hH⟩, rfl⟩
                · exact absurd rfl c550
  | some q =>
    have hd : nextM m n (nI 2) = some q := hD.symm
    have hq : q < n := ((next_inv n).1 q hd).1
    refine v_aload_n C dL_debts_459 rfl ?_
    refine v_gVq (K := fun w => (cS (xK X) g ((s, m), (sT, mT), rr, hh, sl, tx) ++ sbW (xK X) sq sv N (T)) ++ w) C (Cxt.l _ Cxt.id) 0 (c_X7_next hl hIM h14 hset.1) ym_X7_next ml_L_281 lm_0 rfl rfl rfl dL_debts_460 (by first | omega | exact Nat.le_of_ble_eq_true rfl) (by first | omega | exact Nat.le_of_ble_eq_true rfl) (by first | omega | exact Nat.le_of_ble_eq_true rfl) (Nat.le_of_ble_eq_true rfl) (fun _ _ hu => hu.elim) (fun r u hu => ?_)
    obtain ⟨rfl, rfl⟩ := hu
    rcases hnx : nextM m n (m 5 2) with _ | r
    · skip
      refine v_astoreq C (x := none) (lo2 := [some _, some _, some _, some _, some _, some _, some _, some _, none, none, none, none, none, none, none, none, none]) dL_debts_463 rfl (Nat.le_of_ble_eq_true rfl) rfl ?_
      refine v_aload_n C dL_debts_465 rfl ?_
      refine v_kVi (K := fun w => (w ++ sbW (xK X) sq sv N (T)) ++ lmW (xK X) h n (m, e, p)) C (Cxt.r _ (Cxt.r _ Cxt.id)) (c_X5_debts hl (c := cM) hW) ym_X5_debts ml_L_283 fix_cS cS_0 rfl rfl rfl dL_debts_466 (by first | omega | exact Nat.le_of_ble_eq_true rfl) (by first | omega | exact Nat.le_of_ble_eq_true rfl) (by first | omega | exact Nat.le_of_ble_eq_true rfl) (Nat.le_of_ble_eq_true rfl) (fun _ _ hu => (noU (cd_0 n1) hu.1).elim) (fun r u hu => ?_)
      obtain ⟨⟨-, rfl⟩, s, ⟨sT, mT⟩, rfl⟩ := hu
      refine v_iload_n C dL_debts_469 rfl ?_
      refine v_icmp_ne C 553 dL_debts_470 (by decide) (fun c470 => ?_) (fun c470 => ?_)
      · exact absurd rfl c470
      · refine v_aload_n C dL_debts_473 rfl ?_
        refine v_kVi (K := fun w => (w ++ sbW (xK X) sq sv N (T)) ++ lmW (xK X) h n (m, e, p)) C (Cxt.r _ (Cxt.r _ Cxt.id)) (c_X5_stale hl (c := cM) hW) ym_X5_stale ml_L_286 fix_cS cS_0 rfl rfl rfl dL_debts_474 (by first | omega | exact Nat.le_of_ble_eq_true rfl) (by first | omega | exact Nat.le_of_ble_eq_true rfl) (by first | omega | exact Nat.le_of_ble_eq_true rfl) (Nat.le_of_ble_eq_true rfl) (fun _ _ hu => (noU (cd_0 n1) hu.1).elim) (fun r u hu => ?_)
        obtain ⟨⟨-, rfl⟩, s, ⟨sT, mT⟩, rfl⟩ := hu
        refine v_iload_n C dL_debts_477 rfl ?_
        refine v_icmp_ne C 553 dL_debts_478 (by decide) (fun c478 => ?_) (fun c478 => ?_)
        · exact absurd rfl c478
        · refine v_aload_n C dL_debts_481 rfl ?_
          refine v_kVi (K := fun w => (w ++ sbW (xK X) sq sv N (T)) ++ lmW (xK X) h n (m, e, p)) C (Cxt.r _ (Cxt.r _ Cxt.id)) (c_X5_creditors hl (c := cM) hW) ym_X5_creditors ml_L_289 fix_cS cS_0 rfl rfl rfl dL_debts_482 (by first | omega | exact Nat.le_of_ble_eq_true rfl) (by first | omega | exact Nat.le_of_ble_eq_true rfl) (by first | omega | exact Nat.le_of_ble_eq_true rfl) (Nat.le_of_ble_eq_true rfl) (fun _ _ hu => (noU (cd_0 n1) hu.1).elim) (fun r u hu => ?_)
          obtain ⟨⟨-, rfl⟩, s, ⟨sT, mT⟩, rfl⟩ := hu
          refine v_iload C dL_debts_485 rfl ?_
          refine v_icmp_ne C 553 dL_debts_487 (by decide) (fun c487 => ?_) (fun c487 => ?_)
          · exact absurd rfl c487
          · refine v_aload_n C dL_debts_490 rfl ?_
            refine v_kVi (K := fun w => (w ++ sbW (xK X) sq sv N (T)) ++ lmW (xK X) h n (m, e, p)) C (Cxt.r _ (Cxt.r _ Cxt.id)) (c_X5_deepest hl (c := cM) hW) ym_X5_deepest ml_L_292 fix_cS cS_0 rfl rfl rfl dL_debts_491 (by first | omega | exact Nat.le_of_ble_eq_true rfl) (by first | omega | exact Nat.le_of_ble_eq_true rfl) (by first | omega | exact Nat.le_of_ble_eq_true rfl) (Nat.le_of_ble_eq_true rfl) (fun _ _ hu => (noU (cd_0 n1) hu.1).elim) (fun r u hu => ?_)
            obtain ⟨⟨-, rfl⟩, s, ⟨sT, mT⟩, rfl⟩ := hu
            rw [hd]
            refine v_aload C dL_debts_494 rfl ?_
            refine v_ifnonnull C (x := some (h (8 + q))) 503 dL_debts_496 (by decide) (fun _ _ => ?_) (fun c => by cases c)
            refine v_aload C dL_debts_503 rfl ?_
            refine v_gFN (K := fun w => (cS (xK X) g ((s, m), (sT, mT), rr, hh, sl, tx) ++ sbW (xK X) sq sv N (T)) ++ w) C (Cxt.l _ Cxt.id) (v := .int (nI q)) (5 + q) fln_L_175 (plc_at hq) rfl dL_debts_505 ?_
            refine v_icmp_ne C 553 dL_debts_508 (by decide) (fun c508 => ?_) (fun c508 => ?_)
            · exact absurd rfl c508
            · refine v_aload_n C dL_debts_511 rfl ?_
              refine v_kVi (K := fun w => (w ++ sbW (xK X) sq sv N (T)) ++ lmW (xK X) h n (m, e, p)) C (Cxt.r _ (Cxt.r _ Cxt.id)) (c_X5_most hl (c := cM) hW) ym_X5_most ml_L_295 fix_cS cS_0 rfl rfl rfl dL_debts_512 (by first | omega | exact Nat.le_of_ble_eq_true rfl) (by first | omega | exact Nat.le_of_ble_eq_true rfl) (by first | omega | exact Nat.le_of_ble_eq_true rfl) (Nat.le_of_ble_eq_true rfl) (fun _ _ hu => (noU (cd_0 n1) hu.1).elim) (fun r u hu => ?_)
              obtain ⟨⟨-, rfl⟩, s, ⟨sT, mT⟩, rfl⟩ := hu
              rw [hd]
              refine v_aload C dL_debts_515 rfl ?_
              refine v_ifnonnull C (x := some (h (8 + q))) 524 dL_debts_517 (by decide) (fun _ _ => ?_) (fun c => by cases c)
              refine v_aload C dL_debts_524 rfl ?_
              refine v_gVi (K := fun w => (cS (xK X) g ((s, m), (sT, mT), rr, hh, sl, tx) ++ sbW (xK X) sq sv N (T)) ++ w) C (Cxt.l _ Cxt.id) (5 + q) (c_X8_hops hl hIM h14 hq) ym_X8_hops ml_L_209 (plc_at hq) rfl rfl rfl dL_debts_526 (by first | omega | exact Nat.le_of_ble_eq_true rfl) (by first | omega | exact Nat.le_of_ble_eq_true rfl) (by first | omega | exact Nat.le_of_ble_eq_true rfl) (Nat.le_of_ble_eq_true rfl) (fun _ _ hu => hu.elim) (fun r u hu => ?_)
              obtain ⟨rfl, rfl⟩ := hu
              refine v_icmp_ne C 553 dL_debts_529 (by decide) (fun c529 => ?_) (fun c529 => ?_)
              · exact absurd rfl c529
              · refine v_aload_n C dL_debts_532 rfl ?_
                refine v_kVi (K := fun w => (w ++ sbW (xK X) sq sv N (T)) ++ lmW (xK X) h n (m, e, p)) C (Cxt.r _ (Cxt.r _ Cxt.id)) (c_X5_next hl (c := cM) hW) ym_X5_next ml_L_298 fix_cS cS_0 rfl rfl rfl dL_debts_533 (by first | omega | exact Nat.le_of_ble_eq_true rfl) (by first | omega | exact Nat.le_of_ble_eq_true rfl) (by first | omega | exact Nat.le_of_ble_eq_true rfl) (Nat.le_of_ble_eq_true rfl) (fun _ _ hu => (noU (cd_0 n1) hu.1).elim) (fun r u hu => ?_)
                obtain ⟨⟨-, rfl⟩, s, ⟨sT, mT⟩, rfl⟩ := hu
                rw [hnx]
                refine v_aloadq C (x := none) dL_debts_536 rfl ?_
                refine v_ifnonnull C (x := none) 545 dL_debts_538 (by decide) (fun _ c => by cases c) (fun _ => ?_)
                refine v_iconst (v := (-1)) C dL_debts_541 (by decide) ?_
                refine v_goto C 550 dL_debts_542 (by decide) ?_
                refine v_icmp_eq C 555 dL_debts_550 (by decide) (fun c550 => ?_) (fun c550 => ?_)
                · refine v_aload_n C dL_debts_555 rfl ?_
                  refine v_kVi (K := fun w => (w ++ sbW (xK X) sq sv N (T)) ++ lmW (xK X) h n (m, e, p)) C (Cxt.r _ (Cxt.r _ Cxt.id)) (c_X5_writeDebts hl (c := cM) hW) ym_X5_writeDebts ml_L_300 fix_cS cS_0 rfl rfl rfl dL_debts_556 (by first | omega | exact Nat.le_of_ble_eq_true rfl) (by first | omega | exact Nat.le_of_ble_eq_true rfl) (by first | omega | exact Nat.le_of_ble_eq_true rfl) (Nat.le_of_ble_eq_true rfl) (fun _ _ hu => (noU (cd_0 n1) hu.1).elim) (fun r u hu => ?_)
                  obtain ⟨⟨-, rfl⟩, s, ⟨sT, mT⟩, tx, rfl, hX⟩ := hu
                  rw [← hTT] at hX ⊢
                  rw [List.length_map]
                  refine v_aload C dL_debts_559 rfl ?_
                  refine v_gVi (K := fun w => (cS (xK X) g ((s, m), (sT, mT), rr, hh, sl, tx) ++ w) ++ lmW (xK X) h n (m, e, p)) C (Cxt.r _ (Cxt.l _ Cxt.id)) 0 (c_J4_length_8abf5 hl) ym_J4_length_8abf5 ml_L_303 rfl rfl rfl rfl dL_debts_561 (by first | omega | exact Nat.le_of_ble_eq_true rfl) (by first | omega | exact Nat.le_of_ble_eq_true rfl) (by first | omega | exact Nat.le_of_ble_eq_true rfl) (Nat.le_of_ble_eq_true rfl) (fun _ _ hu => hu.elim) (fun r u hu => ?_)
                  obtain ⟨rfl, rfl⟩ := hu
                  refine v_icmp_ne C 592 dL_debts_564 (by decide) (fun c564 => ?_) (fun c564 => ?_)
                  · exact absurd rfl c564
                  · refine v_aload_n C dL_debts_567 rfl ?_
                    refine v_aload C dL_debts_568 rfl ?_
                    refine v_gSi (K := fun w => w ++ lmW (xK X) h n (m, e, p)) C (Cxt.r _ Cxt.id) (c_L_isText hl ⟨s, (sT, mT), rr, hh, sl, tx, _, rfl, hH, hX⟩ hS (by omega)) ys_L_isText ml_L_304 rfl rfl dL_debts_570 (by first | omega | exact Nat.le_of_ble_eq_true rfl) (by first | omega | exact Nat.le_of_ble_eq_true rfl) (by first | omega | exact Nat.le_of_ble_eq_true rfl) (Nat.le_of_ble_eq_true rfl) (fun _ _ hu => hu.elim) (fun r u hu => ?_)
                    obtain ⟨rfl, u1, hG1, rfl⟩ := hu
                    obtain ⟨s, ⟨sT, mT⟩, rr, hh, sl, tx, L1, rfl, hH⟩ := hG1.gu
                    refine v_if_eq C 592 dL_debts_573 (by decide) (fun c => absurd c (by decide)) (fun c573 => ?_)
                    refine v_aload_n C dL_debts_576 rfl ?_
                    refine v_iconst (v := nI 3) C dL_debts_577 (by decide) ?_
                    refine v_iload_n C dL_debts_578 rfl ?_
                    refine v_iconst (v := nI 0) C dL_debts_579 (by decide) ?_
                    refine v_iconst (v := nI 0) C dL_debts_580 (by decide) ?_
                    refine v_gSHi (K := fun w => (w ++ sbW (xK X) sq sv N (T)) ++ lmW (xK X) h n (m, e, p)) C (Cxt.r _ (Cxt.r _ Cxt.id)) (c_thrown hl (Nat.le_of_ble_eq_true rfl) (Nat.le_of_ble_eq_true rfl) (c_calls_3 (b := _) (c := _) hl (by decide) (c_X5_debt hl hW)) (fun _ _ hu => by
                        obtain ⟨_, _, hz, _⟩ := hu
                        have hy := hz.1.1
                        rw [(cd_dbx n1 (show cntG (startM m) 0 n < 2 ^ 31 by have := cntG_le (f := startM m) n 0; omega) (kth_no n 0))] at hy
                        exact absurd hy (by decide)) (fun _ _ hp => ts_E hp.1)) ysh_L_thrown ml_L_226 rfl rfl dL_debts_581 (Nat.le_of_ble_eq_true rfl) (by first | omega | exact Nat.le_of_ble_eq_true rfl) (by first | omega | exact Nat.le_of_ble_eq_true rfl) (Nat.le_of_ble_eq_true rfl) (fun _ _ hu => hu.elim) (fun r u hu => ?_)
                    obtain ⟨e9, u9, hp, rfl, rfl⟩ := hu
                    rw [show exN e9 = 2 from ex_3 ((cd_dbx n1 (show cntG (startM m) 0 n < 2 ^ 31 by have := cntG_le (f := startM m) n 0; omega) (kth_no n 0))) hp.1]
                    obtain ⟨s, ⟨sT, mT⟩, rfl⟩ := hp.2
                    refine v_iconst (v := nI 2) C dL_debts_584 (by decide) ?_
                    refine v_icmp_ne C 592 dL_debts_585 (by decide) (fun c => absurd c (by decide)) (fun c585 => ?_)
                    refine v_iconst (v := nI 1) C dL_debts_588 (by decide) ?_
                    refine v_goto C 593 dL_debts_589 (by decide) ?_
                    refine V.drop (ws' := cS (xK X) g ((s, m), (sT, mT), rr, hh, sl, tx) ++ lmW (xK X) h n (m, e, p)) ((List.sublist_append_left _ _).append (List.Sublist.refl _)) ?_
                    refine v_iretG C F (by first | rfl | exact bI_nar _) dL_debts_593 (by first | omega | exact Nat.le_of_ble_eq_true rfl) (by first | omega | exact Nat.le_of_ble_eq_true rfl) rfl (List.Perm.refl _) ?_
                    exact ⟨rfl, _, ⟨s, (sT, mT), rr, hh, sl, tx, _, rfl, hH⟩, rfl⟩
                · exact absurd rfl c550
    · have hr : r < n := ((next_inv n).1 r hnx).1
      refine v_astore C (lo2 := [some _, some _, some _, some _, some _, some _, some _, some _, none, none, none, none, none, none, none, none, none]) dL_debts_463 rfl (Nat.le_of_ble_eq_true rfl) rfl ?_
      refine v_aload_n C dL_debts_465 rfl ?_
      refine v_kVi (K := fun w => (w ++ sbW (xK X) sq sv N (T)) ++ lmW (xK X) h n (m, e, p)) C (Cxt.r _ (Cxt.r _ Cxt.id)) (c_X5_debts hl (c := cM) hW) ym_X5_debts ml_L_283 fix_cS cS_0 rfl rfl rfl dL_debts_466 (by first | omega | exact Nat.le_of_ble_eq_true rfl) (by first | omega | exact Nat.le_of_ble_eq_true rfl) (by first | omega | exact Nat.le_of_ble_eq_true rfl) (Nat.le_of_ble_eq_true rfl) (fun _ _ hu => (noU (cd_0 n1) hu.1).elim) (fun r u hu => ?_)
      obtain ⟨⟨-, rfl⟩, s, ⟨sT, mT⟩, rfl⟩ := hu
      refine v_iload_n C dL_debts_469 rfl ?_
      refine v_icmp_ne C 553 dL_debts_470 (by decide) (fun c470 => ?_) (fun c470 => ?_)
      · exact absurd rfl c470
      · refine v_aload_n C dL_debts_473 rfl ?_
        refine v_kVi (K := fun w => (w ++ sbW (xK X) sq sv N (T)) ++ lmW (xK X) h n (m, e, p)) C (Cxt.r _ (Cxt.r _ Cxt.id)) (c_X5_stale hl (c := cM) hW) ym_X5_stale ml_L_286 fix_cS cS_0 rfl rfl rfl dL_debts_474 (by first | omega | exact Nat.le_of_ble_eq_true rfl) (by first | omega | exact Nat.le_of_ble_eq_true rfl) (by first | omega | exact Nat.le_of_ble_eq_true rfl) (Nat.le_of_ble_eq_true rfl) (fun _ _ hu => (noU (cd_0 n1) hu.1).elim) (fun r u hu => ?_)
        obtain ⟨⟨-, rfl⟩, s, ⟨sT, mT⟩, rfl⟩ := hu
        refine v_iload_n C dL_debts_477 rfl ?_
        refine v_icmp_ne C 553 dL_debts_478 (by decide) (fun c478 => ?_) (fun c478 => ?_)
        · exact absurd rfl c478
        · refine v_aload_n C dL_debts_481 rfl ?_
          refine v_kVi (K := fun w => (w ++ sbW (xK X) sq sv N (T)) ++ lmW (xK X) h n (m, e, p)) C (Cxt.r _ (Cxt.r _ Cxt.id)) (c_X5_creditors hl (c := cM) hW) ym_X5_creditors ml_L_289 fix_cS cS_0 rfl rfl rfl dL_debts_482 (by first | omega | exact Nat.le_of_ble_eq_true rfl) (by first | omega | exact Nat.le_of_ble_eq_true rfl) (by first | omega | exact Nat.le_of_ble_eq_true rfl) (Nat.le_of_ble_eq_true rfl) (fun _ _ hu => (noU (cd_0 n1) hu.1).elim) (fun r u hu => ?_)
          obtain ⟨⟨-, rfl⟩, s, ⟨sT, mT⟩, rfl⟩ := hu
          refine v_iload C dL_debts_485 rfl ?_
          refine v_icmp_ne C 553 dL_debts_487 (by decide) (fun c487 => ?_) (fun c487 => ?_)
          · exact absurd rfl c487
          · refine v_aload_n C dL_debts_490 rfl ?_
            refine v_kVi (K := fun w => (w ++ sbW (xK X) sq sv N (T)) ++ lmW (xK X) h n (m, e, p)) C (Cxt.r _ (Cxt.r _ Cxt.id)) (c_X5_deepest hl (c := cM) hW) ym_X5_deepest ml_L_292 fix_cS cS_0 rfl rfl rfl dL_debts_491 (by first | omega | exact Nat.le_of_ble_eq_true rfl) (by first | omega | exact Nat.le_of_ble_eq_true rfl) (by first | omega | exact Nat.le_of_ble_eq_true rfl) (Nat.le_of_ble_eq_true rfl) (fun _ _ hu => (noU (cd_0 n1) hu.1).elim) (fun r u hu => ?_)
            obtain ⟨⟨-, rfl⟩, s, ⟨sT, mT⟩, rfl⟩ := hu
            rw [hd]
            refine v_aload C dL_debts_494 rfl ?_
            refine v_ifnonnull C (x := some (h (8 + q))) 503 dL_debts_496 (by decide) (fun _ _ => ?_) (fun c => by cases c)
            refine v_aload C dL_debts_503 rfl ?_
            refine v_gFN (K := fun w => (cS (xK X) g ((s, m), (sT, mT), rr, hh, sl, tx) ++ sbW (xK X) sq sv N (T)) ++ w) C (Cxt.l _ Cxt.id) (v := .int (nI q)) (5 + q) fln_L_175 (plc_at hq) rfl dL_debts_505 ?_
            refine v_icmp_ne C 553 dL_debts_508 (by decide) (fun c508 => ?_) (fun c508 => ?_)
            · exact absurd rfl c508
            · refine v_aload_n C dL_debts_511 rfl ?_
              refine v_kVi (K := fun w => (w ++ sbW (xK X) sq sv N (T)) ++ lmW (xK X) h n (m, e, p)) C (Cxt.r _ (Cxt.r _ Cxt.id)) (c_X5_most hl (c := cM) hW) ym_X5_most ml_L_295 fix_cS cS_0 rfl rfl rfl dL_debts_512 (by first | omega | exact Nat.le_of_ble_eq_true rfl) (by first | omega | exact Nat.le_of_ble_eq_true rfl) (by first | omega | exact Nat.le_of_ble_eq_true rfl) (Nat.le_of_ble_eq_true rfl) (fun _ _ hu => (noU (cd_0 n1) hu.1).elim) (fun r u hu => ?_)
              obtain ⟨⟨-, rfl⟩, s, ⟨sT, mT⟩, rfl⟩ := hu
              rw [hd]
              refine v_aload C dL_debts_515 rfl ?_
              refine v_ifnonnull C (x := some (h (8 + q))) 524 dL_debts_517 (by decide) (fun _ _ => ?_) (fun c => by cases c)
              refine v_aload C dL_debts_524 rfl ?_
              refine v_gVi (K := fun w => (cS (xK X) g ((s, m), (sT, mT), rr, hh, sl, tx) ++ sbW (xK X) sq sv N (T)) ++ w) C (Cxt.l _ Cxt.id) (5 + q) (c_X8_hops hl hIM h14 hq) ym_X8_hops ml_L_209 (plc_at hq) rfl rfl rfl dL_debts_526 (by first | omega | exact Nat.le_of_ble_eq_true rfl) (by first | omega | exact Nat.le_of_ble_eq_true rfl) (by first | omega | exact Nat.le_of_ble_eq_true rfl) (Nat.le_of_ble_eq_true rfl) (fun _ _ hu => hu.elim) (fun r u hu => ?_)
              obtain ⟨rfl, rfl⟩ := hu
              refine v_icmp_ne C 553 dL_debts_529 (by decide) (fun c529 => ?_) (fun c529 => ?_)
              · exact absurd rfl c529
              · refine v_aload_n C dL_debts_532 rfl ?_
                refine v_kVi (K := fun w => (w ++ sbW (xK X) sq sv N (T)) ++ lmW (xK X) h n (m, e, p)) C (Cxt.r _ (Cxt.r _ Cxt.id)) (c_X5_next hl (c := cM) hW) ym_X5_next ml_L_298 fix_cS cS_0 rfl rfl rfl dL_debts_533 (by first | omega | exact Nat.le_of_ble_eq_true rfl) (by first | omega | exact Nat.le_of_ble_eq_true rfl) (by first | omega | exact Nat.le_of_ble_eq_true rfl) (Nat.le_of_ble_eq_true rfl) (fun _ _ hu => (noU (cd_0 n1) hu.1).elim) (fun r u hu => ?_)
                obtain ⟨⟨-, rfl⟩, s, ⟨sT, mT⟩, rfl⟩ := hu
                rw [hnx]
                refine v_aload C dL_debts_536 rfl ?_
                refine v_ifnonnull C (x := some (h (8 + r))) 545 dL_debts_538 (by decide) (fun _ _ => ?_) (fun c => by cases c)
                refine v_aload C dL_debts_545 rfl ?_
                refine v_gFN (K := fun w => (cS (xK X) g ((s, m), (sT, mT), rr, hh, sl, tx) ++ sbW (xK X) sq sv N (T)) ++ w) C (Cxt.l _ Cxt.id) (v := .int (nI r)) (5 + r) fln_L_175 (plc_at hr) rfl dL_debts_547 ?_
                refine v_icmp_eq C 555 dL_debts_550 (by decide) (fun c550 => ?_) (fun c550 => ?_)
                · refine v_aload_n C dL_debts_555 rfl ?_
                  refine v_kVi (K := fun w => (w ++ sbW (xK X) sq sv N (T)) ++ lmW (xK X) h n (m, e, p)) C (Cxt.r _ (Cxt.r _ Cxt.id)) (c_X5_writeDebts hl (c := cM) hW) ym_X5_writeDebts ml_L_300 fix_cS cS_0 rfl rfl rfl dL_debts_556 (by first | omega | exact Nat.le_of_ble_eq_true rfl) (by first | omega | exact Nat.le_of_ble_eq_true rfl) (by first | omega | exact Nat.le_of_ble_eq_true rfl) (Nat.le_of_ble_eq_true rfl) (fun _ _ hu => (noU (cd_0 n1) hu.1).elim) (fun r u hu => ?_)
                  obtain ⟨⟨-, rfl⟩, s, ⟨sT, mT⟩, tx, rfl, hX⟩ := hu
                  rw [← hTT] at hX ⊢
                  rw [List.length_map]
                  refine v_aload C dL_debts_559 rfl ?_
                  refine v_gVi (K := fun w => (cS (xK X) g ((s, m), (sT, mT), rr, hh, sl, tx) ++ w) ++ lmW (xK X) h n (m, e, p)) C (Cxt.r _ (Cxt.l _ Cxt.id)) 0 (c_J4_length_8abf5 hl) ym_J4_length_8abf5 ml_L_303 rfl rfl rfl rfl dL_debts_561 (by first | omega | exact Nat.le_of_ble_eq_true rfl) (by first | omega | exact Nat.le_of_ble_eq_true rfl) (by first | omega | exact Nat.le_of_ble_eq_true rfl) (Nat.le_of_ble_eq_true rfl) (fun _ _ hu => hu.elim) (fun r u hu => ?_)
                  obtain ⟨rfl, rfl⟩ := hu
                  refine v_icmp_ne C 592 dL_debts_564 (by decide) (fun c564 => ?_) (fun c564 => ?_)
                  · exact absurd rfl c564
                  · refine v_aload_n C dL_debts_567 rfl ?_
                    refine v_aload C dL_debts_568 rfl ?_
                    refine v_gSi (K := fun w => w ++ lmW (xK X) h n (m, e, p)) C (Cxt.r _ Cxt.id) (c_L_isText hl ⟨s, (sT, mT), rr, hh, sl, tx, _, rfl, hH, hX⟩ hS (by omega)) ys_L_isText ml_L_304 rfl rfl dL_debts_570 (by first | omega | exact Nat.le_of_ble_eq_true rfl) (by first | omega | exact Nat.le_of_ble_eq_true rfl) (by first | omega | exact Nat.le_of_ble_eq_true rfl) (Nat.le_of_ble_eq_true rfl) (fun _ _ hu => hu.elim) (fun r u hu => ?_)
                    obtain ⟨rfl, u1, hG1, rfl⟩ := hu
                    obtain ⟨s, ⟨sT, mT⟩, rr, hh, sl, tx, L1, rfl, hH⟩ := hG1.gu
                    refine v_if_eq C 592 dL_debts_573 (by decide) (fun c => absurd c (by decide)) (fun c573 => ?_)
                    refine v_aload_n C dL_debts_576 rfl ?_
                    refine v_iconst (v := nI 3) C dL_debts_577 (by decide) ?_
                    refine v_iload_n C dL_debts_578 rfl ?_
                    refine v_iconst (v := nI 0) C dL_debts_579 (by decide) ?_
                    refine v_iconst (v := nI 0) C dL_debts_580 (by decide) ?_
                    refine v_gSHi (K := fun w => (w ++ sbW (xK X) sq sv N (T)) ++ lmW (xK X) h n (m, e, p)) C (Cxt.r _ (Cxt.r _ Cxt.id)) (c_thrown hl (Nat.le_of_ble_eq_true rfl) (Nat.le_of_ble_eq_true rfl) (c_calls_3 (b := _) (c := _) hl (by decide) (c_X5_debt hl hW)) (fun _ _ hu => by
                        obtain ⟨_, _, hz, _⟩ := hu
                        have hy := hz.1.1
                        rw [(cd_dbx n1 (show cntG (startM m) 0 n < 2 ^ 31 by have := cntG_le (f := startM m) n 0; omega) (kth_no n 0))] at hy
                        exact absurd hy (by decide)) (fun _ _ hp => ts_E hp.1)) ysh_L_thrown ml_L_226 rfl rfl dL_debts_581 (Nat.le_of_ble_eq_true rfl) (by first | omega | exact Nat.le_of_ble_eq_true rfl) (by first | omega | exact Nat.le_of_ble_eq_true rfl) (Nat.le_of_ble_eq_true rfl) (fun _ _ hu => hu.elim) (fun r u hu => ?_)
                    obtain ⟨e9, u9, hp, rfl, rfl⟩ := hu
                    rw [show exN e9 = 2 from ex_3 ((cd_dbx n1 (show cntG (startM m) 0 n < 2 ^ 31 by have := cntG_le (f := startM m) n 0; omega) (kth_no n 0))) hp.1]
                    obtain ⟨s, ⟨sT, mT⟩, rfl⟩ := hp.2
                    refine v_iconst (v := nI 2) C dL_debts_584 (by decide) ?_
                    refine v_icmp_ne C 592 dL_debts_585 (by decide) (fun c => absurd c (by decide)) (fun c585 => ?_)
                    refine v_iconst (v := nI 1) C dL_debts_588 (by decide) ?_
                    refine v_goto C 593 dL_debts_589 (by decide) ?_
                    refine V.drop (ws' := cS (xK X) g ((s, m), (sT, mT), rr, hh, sl, tx) ++ lmW (xK X) h n (m, e, p)) ((List.sublist_append_left _ _).append (List.Sublist.refl _)) ?_
                    refine v_iretG C F (by first | rfl | exact bI_nar _) dL_debts_593 (by first | omega | exact Nat.le_of_ble_eq_true rfl) (by first | omega | exact Nat.le_of_ble_eq_true rfl) rfl (List.Perm.refl _) ?_
                    exact ⟨rfl, _, ⟨s, (sT, mT), rr, hh, sl, tx, _, rfl, hH⟩, rfl⟩
                · exact absurd rfl c550
