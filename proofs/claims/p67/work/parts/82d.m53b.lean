set_option maxHeartbeats 2000000 in
theorem vl_B {X : Cx} {g h e : Nat → Nat} {n cM : Nat} {m : Mg} {u : Cg} {b i a c Q K0 N0 : Nat}  (hl : (xl X).stackTraces = false) (C : Ok SS MM X RL cL_values 25 17 5000 70000) (F : FinG X (some FieldType.boolean) ri (fun r w => r = nI 1 ∧ ∃ u' i', GU m u' ∧ i' ≤ i + 10 ∧ w = cS (xK X) g u' ++ (lmW (xK X) h n (m, e, m 6 0) ++ dS (xK X) b i')) (fun _ _ => False) 5000 70000) (hG : GU m u) (hW : WM n cM m) (hI : LI n m) (n1 : ¬ n = 0) (hac : a ≤ c ∧ c < n) (hQ : Q < n) (hK0 : K0 ≤ 44) (hN0 : N0 ≤ 264)  : V X iW 524 [some (.ref (g 0)), some (.ref (h 0)), none, some (.int (nI n)), some (.int (nI a)), some (.int (nI c)), none, none, some (.int (nI Q)), none, none, none, none, none, none, none, some (.int (nI (cntG (crs m a c) 0 n))), none, none, none, none, none, none, none, none] [] (cS (xK X) g u ++ (lmW (xK X) h n (m, e, m 6 0) ++ dS (xK X) b (i + 1 + 1 + 1 + 1))) K0 N0 := by
  obtain ⟨s, ⟨sT, mT⟩, rr, hh, sl, tx, L0, rfl, hH⟩ := hG
  have h14 := hI.1
  have hIM := hI.im
  have hE := hI.ev
  have hset := hI.set
  have hn31 : n < 2 ^ 31 := by omega
  have hn96 : n ≤ 96 := by omega
  refine v_aload_n C dL_values_524 rfl ?_
  refine v_iload C dL_values_525 rfl ?_
  refine v_iload C dL_values_527 rfl ?_
  refine v_gVi (K := fun w => cS (xK X) g ((s, m), (sT, mT), rr, hh, sl, tx) ++ (w ++ dS (xK X) b (i + 1 + 1 + 1 + 1))) C (Cxt.l _ (Cxt.r _ Cxt.id)) 0 (c_X7_isLocked hl (a := a) (c := c + 1) (by omega) (by rw [nI_toInt (by omega)]; omega) (by omega) h14 hI.lk) ym_X7_isLocked ml_L_265 lm_0 rfl rfl rfl dL_values_529 (by first | omega | exact Nat.le_of_ble_eq_true rfl) (by first | omega | exact Nat.le_of_ble_eq_true rfl) (by first | omega | exact Nat.le_of_ble_eq_true rfl) (Nat.le_of_ble_eq_true rfl) (fun _ _ hu => hu.elim) (fun r u hu => ?_)
  obtain ⟨rfl, rfl⟩ := hu
  refine v_if_eqB C 553 dL_values_532 (by decide) (fun c532 => ?_) (fun c532 => ?_)
  · refine v_aload_n C dL_values_553 rfl ?_
    refine v_iload C dL_values_554 rfl ?_
    refine v_iload C dL_values_556 rfl ?_
    refine v_kVi (K := fun w => w ++ (lmW (xK X) h n (m, e, m 6 0) ++ dS (xK X) b (i + 1 + 1 + 1 + 1))) C (Cxt.r _ Cxt.id) (c_X5_forcedByFill hl (c := cM) hW) ym_X5_forcedByFill ml_L_130 fix_cS cS_0 rfl rfl rfl dL_values_558 (by first | omega | exact Nat.le_of_ble_eq_true rfl) (by first | omega | exact Nat.le_of_ble_eq_true rfl) (by first | omega | exact Nat.le_of_ble_eq_true rfl) (Nat.le_of_ble_eq_true rfl) (fun _ _ hu => (no3 (cd_g0 n1 hac.1 hac.2 hn31 c532) hu.1).elim) (fun r u hu => ?_)
    obtain ⟨⟨-, rfl⟩, s, ⟨sT, mT⟩, rfl⟩ := hu
    rw [tN_nI (show a < 2 ^ 31 by omega), tN_nI (show c < 2 ^ 31 by omega), fil_crs]
    refine v_iload C dL_values_561 rfl ?_
    refine v_icmp_eq C 568 dL_values_563 (by decide) (fun c563 => ?_) (fun c563 => ?_)
    · refine V.sub (lo2 := [some _, some _, none, some _, some _, some _, none, none, some _, none, none, none, none, none, none, none, none, none, none, none, none, none, none, none, none]) ⟨rfl, rfl, rfl, rfl, rfl, rfl, trivial⟩ ?_
      exact vl_C hl C F ⟨s, (sT, mT), rr, hh, sl, tx, _, rfl, hH⟩ hW hI n1 hac hQ (by omega) (by omega)
    · exact absurd rfl c563
  · refine v_aload_n C dL_values_535 rfl ?_
    refine v_bipush (v := nI 33) C dL_values_536 (by decide) ?_
    refine v_iload C dL_values_538 rfl ?_
    refine v_iload C dL_values_540 rfl ?_
    refine v_iconst (v := nI 0) C dL_values_542 (by decide) ?_
    refine v_gSHi (K := fun w => w ++ (lmW (xK X) h n (m, e, m 6 0) ++ dS (xK X) b (i + 1 + 1 + 1 + 1))) C (Cxt.r _ Cxt.id) (c_thrown hl (Nat.le_of_ble_eq_true rfl) (Nat.le_of_ble_eq_true rfl) (c_calls_33 (b := _) (c := _) hl (by decide) (c_X5_forcedByFill hl hW)) (fun _ _ hu => by
        obtain ⟨_, _, hz, _⟩ := hu
        have hy := hz.1.1
        rw [(cd_g3 n1 hac.1 hac.2 hn31 c532)] at hy
        exact absurd hy (by decide)) (fun _ _ hp => ts_E hp.1)) ysh_L_thrown ml_L_226 rfl rfl dL_values_543 (Nat.le_of_ble_eq_true rfl) (by first | omega | exact Nat.le_of_ble_eq_true rfl) (by first | omega | exact Nat.le_of_ble_eq_true rfl) (Nat.le_of_ble_eq_true rfl) (fun _ _ hu => hu.elim) (fun r u hu => ?_)
    obtain ⟨e9, u9, hp, rfl, rfl⟩ := hu
    rw [show exN e9 = 3 from ex_3 ((cd_g3 n1 hac.1 hac.2 hn31 c532)) hp.1]
    obtain ⟨s, ⟨sT, mT⟩, rfl⟩ := hp.2
    refine v_iconst (v := nI 3) C dL_values_546 (by decide) ?_
    refine v_icmp_eq C 568 dL_values_547 (by decide) (fun c547 => ?_) (fun c => absurd c (by decide))
    refine V.sub (lo2 := [some _, some _, none, some _, some _, some _, none, none, some _, none, none, none, none, none, none, none, none, none, none, none, none, none, none, none, none]) ⟨rfl, rfl, rfl, rfl, rfl, rfl, trivial⟩ ?_
    exact vl_C hl C F ⟨s, (sT, mT), rr, hh, sl, tx, _, rfl, hH⟩ hW hI n1 hac hQ (by omega) (by omega)
